theorem dX0_init_0 : decode cX0_init 0 = .ok (.aload_n 0, 1) := by decide +kernel
theorem dX0_init_1 : decode cX0_init 1 = .ok (.invokespecial 3, 3) := by decide +kernel
theorem dX0_init_4 : decode cX0_init 4 = .ok (.aload_n 0, 1) := by decide +kernel
theorem dX0_init_5 : decode cX0_init 5 = .ok (.iconst 0, 1) := by decide +kernel
theorem dX0_init_6 : decode cX0_init 6 = .ok (.putfield 9, 3) := by decide +kernel
theorem dX0_init_9 : decode cX0_init 9 = .ok (.aload_n 0, 1) := by decide +kernel
theorem dX0_init_10 : decode cX0_init 10 = .ok (.iconst 0, 1) := by decide +kernel
theorem dX0_init_11 : decode cX0_init 11 = .ok (.putfield 15, 3) := by decide +kernel
theorem dX0_init_14 : decode cX0_init 14 = .ok (.aload_n 0, 1) := by decide +kernel
theorem dX0_init_15 : decode cX0_init 15 = .ok (.bipush 24, 2) := by decide +kernel
theorem dX0_init_17 : decode cX0_init 17 = .ok (.newarray .int, 2) := by decide +kernel
theorem dX0_init_19 : decode cX0_init 19 = .ok (.putfield 18, 3) := by decide +kernel
theorem dX0_init_22 : decode cX0_init 22 = .ok (.aload_n 0, 1) := by decide +kernel
theorem dX0_init_23 : decode cX0_init 23 = .ok (.bipush 24, 2) := by decide +kernel
theorem dX0_init_25 : decode cX0_init 25 = .ok (.newarray .int, 2) := by decide +kernel
theorem dX0_init_27 : decode cX0_init 27 = .ok (.putfield 22, 3) := by decide +kernel
theorem dX0_init_30 : decode cX0_init 30 = .ok (.aload_n 0, 1) := by decide +kernel
theorem dX0_init_31 : decode cX0_init 31 = .ok (.bipush 24, 2) := by decide +kernel
theorem dX0_init_33 : decode cX0_init 33 = .ok (.newarray .int, 2) := by decide +kernel
theorem dX0_init_35 : decode cX0_init 35 = .ok (.putfield 25, 3) := by decide +kernel
theorem dX0_init_38 : decode cX0_init 38 = .ok (.aload_n 0, 1) := by decide +kernel
theorem dX0_init_39 : decode cX0_init 39 = .ok (.bipush 24, 2) := by decide +kernel
theorem dX0_init_41 : decode cX0_init 41 = .ok (.newarray .int, 2) := by decide +kernel
theorem dX0_init_43 : decode cX0_init 43 = .ok (.putfield 28, 3) := by decide +kernel
theorem dX0_init_46 : decode cX0_init 46 = .ok (.aload_n 0, 1) := by decide +kernel
theorem dX0_init_47 : decode cX0_init 47 = .ok (.bipush 24, 2) := by decide +kernel
theorem dX0_init_49 : decode cX0_init 49 = .ok (.newarray .int, 2) := by decide +kernel
theorem dX0_init_51 : decode cX0_init 51 = .ok (.putfield 31, 3) := by decide +kernel
theorem dX0_init_54 : decode cX0_init 54 = .ok (.return_, 1) := by decide +kernel
theorem dX0_copy_0 : decode cX0_copy 0 = .ok (.aload_n 0, 1) := by decide +kernel
theorem dX0_copy_1 : decode cX0_copy 1 = .ok (.aload_n 1, 1) := by decide +kernel
theorem dX0_copy_2 : decode cX0_copy 2 = .ok (.invokevirtual 34, 3) := by decide +kernel
theorem dX0_copy_5 : decode cX0_copy 5 = .ok (.aload_n 0, 1) := by decide +kernel
theorem dX0_copy_6 : decode cX0_copy 6 = .ok (.aload_n 1, 1) := by decide +kernel
theorem dX0_copy_7 : decode cX0_copy 7 = .ok (.getfield 9, 3) := by decide +kernel
theorem dX0_copy_10 : decode cX0_copy 10 = .ok (.putfield 9, 3) := by decide +kernel
theorem dX0_copy_13 : decode cX0_copy 13 = .ok (.aload_n 0, 1) := by decide +kernel
theorem dX0_copy_14 : decode cX0_copy 14 = .ok (.aload_n 1, 1) := by decide +kernel
theorem dX0_copy_15 : decode cX0_copy 15 = .ok (.getfield 15, 3) := by decide +kernel
theorem dX0_copy_18 : decode cX0_copy 18 = .ok (.putfield 15, 3) := by decide +kernel
theorem dX0_copy_21 : decode cX0_copy 21 = .ok (.return_, 1) := by decide +kernel
theorem dX0_copyKeys_0 : decode cX0_copyKeys 0 = .ok (.aload_n 0, 1) := by decide +kernel
theorem dX0_copyKeys_1 : decode cX0_copyKeys 1 = .ok (.aload_n 1, 1) := by decide +kernel
theorem dX0_copyKeys_2 : decode cX0_copyKeys 2 = .ok (.getfield 38, 3) := by decide +kernel
theorem dX0_copyKeys_5 : decode cX0_copyKeys 5 = .ok (.putfield 38, 3) := by decide +kernel
theorem dX0_copyKeys_8 : decode cX0_copyKeys 8 = .ok (.aload_n 1, 1) := by decide +kernel
theorem dX0_copyKeys_9 : decode cX0_copyKeys 9 = .ok (.getfield 18, 3) := by decide +kernel
theorem dX0_copyKeys_12 : decode cX0_copyKeys 12 = .ok (.aload_n 0, 1) := by decide +kernel
theorem dX0_copyKeys_13 : decode cX0_copyKeys 13 = .ok (.getfield 18, 3) := by decide +kernel
theorem dX0_copyKeys_16 : decode cX0_copyKeys 16 = .ok (.invokestatic 41, 3) := by decide +kernel
theorem dX0_copyKeys_19 : decode cX0_copyKeys 19 = .ok (.aload_n 1, 1) := by decide +kernel
theorem dX0_copyKeys_20 : decode cX0_copyKeys 20 = .ok (.getfield 22, 3) := by decide +kernel
theorem dX0_copyKeys_23 : decode cX0_copyKeys 23 = .ok (.aload_n 0, 1) := by decide +kernel
theorem dX0_copyKeys_24 : decode cX0_copyKeys 24 = .ok (.getfield 22, 3) := by decide +kernel
theorem dX0_copyKeys_27 : decode cX0_copyKeys 27 = .ok (.invokestatic 41, 3) := by decide +kernel
theorem dX0_copyKeys_30 : decode cX0_copyKeys 30 = .ok (.aload_n 1, 1) := by decide +kernel
theorem dX0_copyKeys_31 : decode cX0_copyKeys 31 = .ok (.getfield 25, 3) := by decide +kernel
theorem dX0_copyKeys_34 : decode cX0_copyKeys 34 = .ok (.aload_n 0, 1) := by decide +kernel
theorem dX0_copyKeys_35 : decode cX0_copyKeys 35 = .ok (.getfield 25, 3) := by decide +kernel
theorem dX0_copyKeys_38 : decode cX0_copyKeys 38 = .ok (.invokestatic 41, 3) := by decide +kernel
theorem dX0_copyKeys_41 : decode cX0_copyKeys 41 = .ok (.aload_n 1, 1) := by decide +kernel
theorem dX0_copyKeys_42 : decode cX0_copyKeys 42 = .ok (.getfield 28, 3) := by decide +kernel
theorem dX0_copyKeys_45 : decode cX0_copyKeys 45 = .ok (.aload_n 0, 1) := by decide +kernel
theorem dX0_copyKeys_46 : decode cX0_copyKeys 46 = .ok (.getfield 28, 3) := by decide +kernel
theorem dX0_copyKeys_49 : decode cX0_copyKeys 49 = .ok (.invokestatic 41, 3) := by decide +kernel
theorem dX0_copyKeys_52 : decode cX0_copyKeys 52 = .ok (.aload_n 1, 1) := by decide +kernel
theorem dX0_copyKeys_53 : decode cX0_copyKeys 53 = .ok (.getfield 31, 3) := by decide +kernel
theorem dX0_copyKeys_56 : decode cX0_copyKeys 56 = .ok (.aload_n 0, 1) := by decide +kernel
theorem dX0_copyKeys_57 : decode cX0_copyKeys 57 = .ok (.getfield 31, 3) := by decide +kernel
theorem dX0_copyKeys_60 : decode cX0_copyKeys 60 = .ok (.invokestatic 41, 3) := by decide +kernel
theorem dX0_copyKeys_63 : decode cX0_copyKeys 63 = .ok (.return_, 1) := by decide +kernel
theorem dX0_has_0 : decode cX0_has 0 = .ok (.iload_n 1, 1) := by decide +kernel
theorem dX0_has_1 : decode cX0_has 1 = .ok (.ifCond .lt 15, 3) := by decide +kernel
theorem dX0_has_4 : decode cX0_has 4 = .ok (.iload_n 1, 1) := by decide +kernel
theorem dX0_has_5 : decode cX0_has 5 = .ok (.aload_n 0, 1) := by decide +kernel
theorem dX0_has_6 : decode cX0_has 6 = .ok (.getfield 38, 3) := by decide +kernel
theorem dX0_has_9 : decode cX0_has 9 = .ok (.if_icmp .ge 7, 3) := by decide +kernel
theorem dX0_has_12 : decode cX0_has 12 = .ok (.iconst 1, 1) := by decide +kernel
theorem dX0_has_13 : decode cX0_has 13 = .ok (.goto 4, 3) := by decide +kernel
theorem dX0_has_16 : decode cX0_has 16 = .ok (.iconst 0, 1) := by decide +kernel
theorem dX0_has_17 : decode cX0_has 17 = .ok (.ireturn, 1) := by decide +kernel
theorem dX0_find_0 : decode cX0_find 0 = .ok (.aload_n 0, 1) := by decide +kernel
theorem dX0_find_1 : decode cX0_find 1 = .ok (.iload_n 1, 1) := by decide +kernel
theorem dX0_find_2 : decode cX0_find 2 = .ok (.invokevirtual 45, 3) := by decide +kernel
theorem dX0_find_5 : decode cX0_find 5 = .ok (.istore_n 2, 1) := by decide +kernel
theorem dX0_find_6 : decode cX0_find 6 = .ok (.aload_n 0, 1) := by decide +kernel
theorem dX0_find_7 : decode cX0_find 7 = .ok (.iload_n 2, 1) := by decide +kernel
theorem dX0_find_8 : decode cX0_find 8 = .ok (.invokevirtual 49, 3) := by decide +kernel
theorem dX0_find_11 : decode cX0_find 11 = .ok (.ifCond .eq 19, 3) := by decide +kernel
theorem dX0_find_14 : decode cX0_find 14 = .ok (.aload_n 0, 1) := by decide +kernel
theorem dX0_find_15 : decode cX0_find 15 = .ok (.getfield 18, 3) := by decide +kernel
theorem dX0_find_18 : decode cX0_find 18 = .ok (.iload_n 2, 1) := by decide +kernel
theorem dX0_find_19 : decode cX0_find 19 = .ok (.invokestatic 53, 3) := by decide +kernel
theorem dX0_find_22 : decode cX0_find 22 = .ok (.iload_n 1, 1) := by decide +kernel
theorem dX0_find_23 : decode cX0_find 23 = .ok (.if_icmp .ne 7, 3) := by decide +kernel
theorem dX0_find_26 : decode cX0_find 26 = .ok (.iload_n 2, 1) := by decide +kernel
theorem dX0_find_27 : decode cX0_find 27 = .ok (.goto 4, 3) := by decide +kernel
theorem dX0_find_30 : decode cX0_find 30 = .ok (.iconst (-1), 1) := by decide +kernel
theorem dX0_find_31 : decode cX0_find 31 = .ok (.ireturn, 1) := by decide +kernel
theorem dX0_keysBefore_0 : decode cX0_keysBefore 0 = .ok (.iconst 0, 1) := by decide +kernel
theorem dX0_keysBefore_1 : decode cX0_keysBefore 1 = .ok (.istore_n 2, 1) := by decide +kernel
theorem dX0_keysBefore_2 : decode cX0_keysBefore 2 = .ok (.iload_n 2, 1) := by decide +kernel
theorem dX0_keysBefore_3 : decode cX0_keysBefore 3 = .ok (.aload_n 0, 1) := by decide +kernel
theorem dX0_keysBefore_4 : decode cX0_keysBefore 4 = .ok (.getfield 38, 3) := by decide +kernel
theorem dX0_keysBefore_7 : decode cX0_keysBefore 7 = .ok (.if_icmp .ge 21, 3) := by decide +kernel
theorem dX0_keysBefore_10 : decode cX0_keysBefore 10 = .ok (.aload_n 0, 1) := by decide +kernel
theorem dX0_keysBefore_11 : decode cX0_keysBefore 11 = .ok (.getfield 18, 3) := by decide +kernel
theorem dX0_keysBefore_14 : decode cX0_keysBefore 14 = .ok (.iload_n 2, 1) := by decide +kernel
theorem dX0_keysBefore_15 : decode cX0_keysBefore 15 = .ok (.invokestatic 53, 3) := by decide +kernel
theorem dX0_keysBefore_18 : decode cX0_keysBefore 18 = .ok (.iload_n 1, 1) := by decide +kernel
theorem dX0_keysBefore_19 : decode cX0_keysBefore 19 = .ok (.if_icmp .ge 9, 3) := by decide +kernel
theorem dX0_keysBefore_22 : decode cX0_keysBefore 22 = .ok (.iinc 2 1, 3) := by decide +kernel
theorem dX0_keysBefore_25 : decode cX0_keysBefore 25 = .ok (.goto (-23), 3) := by decide +kernel
theorem dX0_keysBefore_28 : decode cX0_keysBefore 28 = .ok (.iload_n 2, 1) := by decide +kernel
theorem dX0_keysBefore_29 : decode cX0_keysBefore 29 = .ok (.ireturn, 1) := by decide +kernel
theorem dX0_bothExtrapolations_0 : decode cX0_bothExtrapolations 0 = .ok (.bipush 10, 2) := by decide +kernel
theorem dX0_bothExtrapolations_2 : decode cX0_bothExtrapolations 2 = .ok (.aload_n 0, 1) := by decide +kernel
theorem dX0_bothExtrapolations_3 : decode cX0_bothExtrapolations 3 = .ok (.getfield 9, 3) := by decide +kernel
theorem dX0_bothExtrapolations_6 : decode cX0_bothExtrapolations 6 = .ok (.imul, 1) := by decide +kernel
theorem dX0_bothExtrapolations_7 : decode cX0_bothExtrapolations 7 = .ok (.aload_n 0, 1) := by decide +kernel
theorem dX0_bothExtrapolations_8 : decode cX0_bothExtrapolations 8 = .ok (.getfield 15, 3) := by decide +kernel
theorem dX0_bothExtrapolations_11 : decode cX0_bothExtrapolations 11 = .ok (.iadd, 1) := by decide +kernel
theorem dX0_bothExtrapolations_12 : decode cX0_bothExtrapolations 12 = .ok (.ireturn, 1) := by decide +kernel
theorem dX0_insert_0 : decode cX0_insert 0 = .ok (.aload_n 0, 1) := by decide +kernel
theorem dX0_insert_1 : decode cX0_insert 1 = .ok (.iload_n 1, 1) := by decide +kernel
theorem dX0_insert_2 : decode cX0_insert 2 = .ok (.invokevirtual 45, 3) := by decide +kernel
theorem dX0_insert_5 : decode cX0_insert 5 = .ok (.istore 6, 2) := by decide +kernel
theorem dX0_insert_7 : decode cX0_insert 7 = .ok (.aload_n 0, 1) := by decide +kernel
theorem dX0_insert_8 : decode cX0_insert 8 = .ok (.getfield 38, 3) := by decide +kernel
theorem dX0_insert_11 : decode cX0_insert 11 = .ok (.istore 7, 2) := by decide +kernel
theorem dX0_insert_13 : decode cX0_insert 13 = .ok (.iload 7, 2) := by decide +kernel
theorem dX0_insert_15 : decode cX0_insert 15 = .ok (.iload 6, 2) := by decide +kernel
theorem dX0_insert_17 : decode cX0_insert 17 = .ok (.if_icmp .le 19, 3) := by decide +kernel
theorem dX0_insert_20 : decode cX0_insert 20 = .ok (.aload_n 0, 1) := by decide +kernel
theorem dX0_insert_21 : decode cX0_insert 21 = .ok (.iload 7, 2) := by decide +kernel
theorem dX0_insert_23 : decode cX0_insert 23 = .ok (.iconst 1, 1) := by decide +kernel
theorem dX0_insert_24 : decode cX0_insert 24 = .ok (.isub, 1) := by decide +kernel
theorem dX0_insert_25 : decode cX0_insert 25 = .ok (.iload 7, 2) := by decide +kernel
theorem dX0_insert_27 : decode cX0_insert 27 = .ok (.invokevirtual 57, 3) := by decide +kernel
theorem dX0_insert_30 : decode cX0_insert 30 = .ok (.iinc 7 (-1), 3) := by decide +kernel
theorem dX0_insert_33 : decode cX0_insert 33 = .ok (.goto (-20), 3) := by decide +kernel
theorem dX0_insert_36 : decode cX0_insert 36 = .ok (.aload_n 0, 1) := by decide +kernel
theorem dX0_insert_37 : decode cX0_insert 37 = .ok (.dup, 1) := by decide +kernel
theorem dX0_insert_38 : decode cX0_insert 38 = .ok (.getfield 38, 3) := by decide +kernel
theorem dX0_insert_41 : decode cX0_insert 41 = .ok (.iconst 1, 1) := by decide +kernel
theorem dX0_insert_42 : decode cX0_insert 42 = .ok (.iadd, 1) := by decide +kernel
theorem dX0_insert_43 : decode cX0_insert 43 = .ok (.putfield 38, 3) := by decide +kernel
theorem dX0_insert_46 : decode cX0_insert 46 = .ok (.aload_n 0, 1) := by decide +kernel
theorem dX0_insert_47 : decode cX0_insert 47 = .ok (.getfield 18, 3) := by decide +kernel
theorem dX0_insert_50 : decode cX0_insert 50 = .ok (.iload 6, 2) := by decide +kernel
theorem dX0_insert_52 : decode cX0_insert 52 = .ok (.iload_n 1, 1) := by decide +kernel
theorem dX0_insert_53 : decode cX0_insert 53 = .ok (.invokestatic 61, 3) := by decide +kernel
theorem dX0_insert_56 : decode cX0_insert 56 = .ok (.aload_n 0, 1) := by decide +kernel
theorem dX0_insert_57 : decode cX0_insert 57 = .ok (.getfield 22, 3) := by decide +kernel
theorem dX0_insert_60 : decode cX0_insert 60 = .ok (.iload 6, 2) := by decide +kernel
theorem dX0_insert_62 : decode cX0_insert 62 = .ok (.iload_n 2, 1) := by decide +kernel
theorem dX0_insert_63 : decode cX0_insert 63 = .ok (.invokestatic 61, 3) := by decide +kernel
theorem dX0_insert_66 : decode cX0_insert 66 = .ok (.aload_n 0, 1) := by decide +kernel
theorem dX0_insert_67 : decode cX0_insert 67 = .ok (.getfield 25, 3) := by decide +kernel
theorem dX0_insert_70 : decode cX0_insert 70 = .ok (.iload 6, 2) := by decide +kernel
theorem dX0_insert_72 : decode cX0_insert 72 = .ok (.iload_n 3, 1) := by decide +kernel
theorem dX0_insert_73 : decode cX0_insert 73 = .ok (.invokestatic 61, 3) := by decide +kernel
theorem dX0_insert_76 : decode cX0_insert 76 = .ok (.aload_n 0, 1) := by decide +kernel
theorem dX0_insert_77 : decode cX0_insert 77 = .ok (.getfield 28, 3) := by decide +kernel
theorem dX0_insert_80 : decode cX0_insert 80 = .ok (.iload 6, 2) := by decide +kernel
theorem dX0_insert_82 : decode cX0_insert 82 = .ok (.iload 4, 2) := by decide +kernel
theorem dX0_insert_84 : decode cX0_insert 84 = .ok (.invokestatic 61, 3) := by decide +kernel
theorem dX0_insert_87 : decode cX0_insert 87 = .ok (.aload_n 0, 1) := by decide +kernel
theorem dX0_insert_88 : decode cX0_insert 88 = .ok (.getfield 31, 3) := by decide +kernel
theorem dX0_insert_91 : decode cX0_insert 91 = .ok (.iload 6, 2) := by decide +kernel
theorem dX0_insert_93 : decode cX0_insert 93 = .ok (.iload 5, 2) := by decide +kernel
theorem dX0_insert_95 : decode cX0_insert 95 = .ok (.invokestatic 61, 3) := by decide +kernel
theorem dX0_insert_98 : decode cX0_insert 98 = .ok (.iload 6, 2) := by decide +kernel
theorem dX0_insert_100 : decode cX0_insert 100 = .ok (.ireturn, 1) := by decide +kernel
theorem dX0_drop_0 : decode cX0_drop 0 = .ok (.iload_n 1, 1) := by decide +kernel
theorem dX0_drop_1 : decode cX0_drop 1 = .ok (.iconst 1, 1) := by decide +kernel
theorem dX0_drop_2 : decode cX0_drop 2 = .ok (.iadd, 1) := by decide +kernel
theorem dX0_drop_3 : decode cX0_drop 3 = .ok (.istore_n 2, 1) := by decide +kernel
theorem dX0_drop_4 : decode cX0_drop 4 = .ok (.iload_n 2, 1) := by decide +kernel
theorem dX0_drop_5 : decode cX0_drop 5 = .ok (.aload_n 0, 1) := by decide +kernel
theorem dX0_drop_6 : decode cX0_drop 6 = .ok (.getfield 38, 3) := by decide +kernel
theorem dX0_drop_9 : decode cX0_drop 9 = .ok (.if_icmp .ge 17, 3) := by decide +kernel
theorem dX0_drop_12 : decode cX0_drop 12 = .ok (.aload_n 0, 1) := by decide +kernel
theorem dX0_drop_13 : decode cX0_drop 13 = .ok (.iload_n 2, 1) := by decide +kernel
theorem dX0_drop_14 : decode cX0_drop 14 = .ok (.iload_n 2, 1) := by decide +kernel
theorem dX0_drop_15 : decode cX0_drop 15 = .ok (.iconst 1, 1) := by decide +kernel
theorem dX0_drop_16 : decode cX0_drop 16 = .ok (.isub, 1) := by decide +kernel
theorem dX0_drop_17 : decode cX0_drop 17 = .ok (.invokevirtual 57, 3) := by decide +kernel
theorem dX0_drop_20 : decode cX0_drop 20 = .ok (.iinc 2 1, 3) := by decide +kernel
theorem dX0_drop_23 : decode cX0_drop 23 = .ok (.goto (-19), 3) := by decide +kernel
theorem dX0_drop_26 : decode cX0_drop 26 = .ok (.aload_n 0, 1) := by decide +kernel
theorem dX0_drop_27 : decode cX0_drop 27 = .ok (.dup, 1) := by decide +kernel
theorem dX0_drop_28 : decode cX0_drop 28 = .ok (.getfield 38, 3) := by decide +kernel
theorem dX0_drop_31 : decode cX0_drop 31 = .ok (.iconst 1, 1) := by decide +kernel
theorem dX0_drop_32 : decode cX0_drop 32 = .ok (.isub, 1) := by decide +kernel
theorem dX0_drop_33 : decode cX0_drop 33 = .ok (.putfield 38, 3) := by decide +kernel
theorem dX0_drop_36 : decode cX0_drop 36 = .ok (.return_, 1) := by decide +kernel
theorem dX0_shift_0 : decode cX0_shift 0 = .ok (.aload_n 0, 1) := by decide +kernel
theorem dX0_shift_1 : decode cX0_shift 1 = .ok (.getfield 18, 3) := by decide +kernel
theorem dX0_shift_4 : decode cX0_shift 4 = .ok (.iload_n 2, 1) := by decide +kernel
theorem dX0_shift_5 : decode cX0_shift 5 = .ok (.aload_n 0, 1) := by decide +kernel
theorem dX0_shift_6 : decode cX0_shift 6 = .ok (.getfield 18, 3) := by decide +kernel
theorem dX0_shift_9 : decode cX0_shift 9 = .ok (.iload_n 1, 1) := by decide +kernel
theorem dX0_shift_10 : decode cX0_shift 10 = .ok (.invokestatic 53, 3) := by decide +kernel
theorem dX0_shift_13 : decode cX0_shift 13 = .ok (.invokestatic 61, 3) := by decide +kernel
theorem dX0_shift_16 : decode cX0_shift 16 = .ok (.aload_n 0, 1) := by decide +kernel
theorem dX0_shift_17 : decode cX0_shift 17 = .ok (.getfield 22, 3) := by decide +kernel
theorem dX0_shift_20 : decode cX0_shift 20 = .ok (.iload_n 2, 1) := by decide +kernel
theorem dX0_shift_21 : decode cX0_shift 21 = .ok (.aload_n 0, 1) := by decide +kernel
theorem dX0_shift_22 : decode cX0_shift 22 = .ok (.getfield 22, 3) := by decide +kernel
theorem dX0_shift_25 : decode cX0_shift 25 = .ok (.iload_n 1, 1) := by decide +kernel
theorem dX0_shift_26 : decode cX0_shift 26 = .ok (.invokestatic 53, 3) := by decide +kernel
theorem dX0_shift_29 : decode cX0_shift 29 = .ok (.invokestatic 61, 3) := by decide +kernel
theorem dX0_shift_32 : decode cX0_shift 32 = .ok (.aload_n 0, 1) := by decide +kernel
theorem dX0_shift_33 : decode cX0_shift 33 = .ok (.getfield 25, 3) := by decide +kernel
theorem dX0_shift_36 : decode cX0_shift 36 = .ok (.iload_n 2, 1) := by decide +kernel
theorem dX0_shift_37 : decode cX0_shift 37 = .ok (.aload_n 0, 1) := by decide +kernel
theorem dX0_shift_38 : decode cX0_shift 38 = .ok (.getfield 25, 3) := by decide +kernel
theorem dX0_shift_41 : decode cX0_shift 41 = .ok (.iload_n 1, 1) := by decide +kernel
theorem dX0_shift_42 : decode cX0_shift 42 = .ok (.invokestatic 53, 3) := by decide +kernel
theorem dX0_shift_45 : decode cX0_shift 45 = .ok (.invokestatic 61, 3) := by decide +kernel
theorem dX0_shift_48 : decode cX0_shift 48 = .ok (.aload_n 0, 1) := by decide +kernel
theorem dX0_shift_49 : decode cX0_shift 49 = .ok (.getfield 28, 3) := by decide +kernel
theorem dX0_shift_52 : decode cX0_shift 52 = .ok (.iload_n 2, 1) := by decide +kernel
theorem dX0_shift_53 : decode cX0_shift 53 = .ok (.aload_n 0, 1) := by decide +kernel
theorem dX0_shift_54 : decode cX0_shift 54 = .ok (.getfield 28, 3) := by decide +kernel
theorem dX0_shift_57 : decode cX0_shift 57 = .ok (.iload_n 1, 1) := by decide +kernel
theorem dX0_shift_58 : decode cX0_shift 58 = .ok (.invokestatic 53, 3) := by decide +kernel
theorem dX0_shift_61 : decode cX0_shift 61 = .ok (.invokestatic 61, 3) := by decide +kernel
theorem dX0_shift_64 : decode cX0_shift 64 = .ok (.aload_n 0, 1) := by decide +kernel
theorem dX0_shift_65 : decode cX0_shift 65 = .ok (.getfield 31, 3) := by decide +kernel
theorem dX0_shift_68 : decode cX0_shift 68 = .ok (.iload_n 2, 1) := by decide +kernel
theorem dX0_shift_69 : decode cX0_shift 69 = .ok (.aload_n 0, 1) := by decide +kernel
theorem dX0_shift_70 : decode cX0_shift 70 = .ok (.getfield 31, 3) := by decide +kernel
theorem dX0_shift_73 : decode cX0_shift 73 = .ok (.iload_n 1, 1) := by decide +kernel
theorem dX0_shift_74 : decode cX0_shift 74 = .ok (.invokestatic 53, 3) := by decide +kernel
theorem dX0_shift_77 : decode cX0_shift 77 = .ok (.invokestatic 61, 3) := by decide +kernel
theorem dX0_shift_80 : decode cX0_shift 80 = .ok (.return_, 1) := by decide +kernel
theorem dX0_keysOutside_0 : decode cX0_keysOutside 0 = .ok (.aload_n 0, 1) := by decide +kernel
theorem dX0_keysOutside_1 : decode cX0_keysOutside 1 = .ok (.getfield 38, 3) := by decide +kernel
theorem dX0_keysOutside_4 : decode cX0_keysOutside 4 = .ok (.aload_n 0, 1) := by decide +kernel
theorem dX0_keysOutside_5 : decode cX0_keysOutside 5 = .ok (.iload_n 2, 1) := by decide +kernel
theorem dX0_keysOutside_6 : decode cX0_keysOutside 6 = .ok (.iconst 1, 1) := by decide +kernel
theorem dX0_keysOutside_7 : decode cX0_keysOutside 7 = .ok (.iadd, 1) := by decide +kernel
theorem dX0_keysOutside_8 : decode cX0_keysOutside 8 = .ok (.invokevirtual 45, 3) := by decide +kernel
theorem dX0_keysOutside_11 : decode cX0_keysOutside 11 = .ok (.aload_n 0, 1) := by decide +kernel
theorem dX0_keysOutside_12 : decode cX0_keysOutside 12 = .ok (.iload_n 1, 1) := by decide +kernel
theorem dX0_keysOutside_13 : decode cX0_keysOutside 13 = .ok (.invokevirtual 45, 3) := by decide +kernel
theorem dX0_keysOutside_16 : decode cX0_keysOutside 16 = .ok (.isub, 1) := by decide +kernel
theorem dX0_keysOutside_17 : decode cX0_keysOutside 17 = .ok (.isub, 1) := by decide +kernel
theorem dX0_keysOutside_18 : decode cX0_keysOutside 18 = .ok (.ireturn, 1) := by decide +kernel
theorem dX0_replaceRange_0 : decode cX0_replaceRange 0 = .ok (.aload_n 0, 1) := by decide +kernel
theorem dX0_replaceRange_1 : decode cX0_replaceRange 1 = .ok (.iload_n 1, 1) := by decide +kernel
theorem dX0_replaceRange_2 : decode cX0_replaceRange 2 = .ok (.invokevirtual 45, 3) := by decide +kernel
theorem dX0_replaceRange_5 : decode cX0_replaceRange 5 = .ok (.istore 5, 2) := by decide +kernel
theorem dX0_replaceRange_7 : decode cX0_replaceRange 7 = .ok (.aload_n 0, 1) := by decide +kernel
theorem dX0_replaceRange_8 : decode cX0_replaceRange 8 = .ok (.iload_n 2, 1) := by decide +kernel
theorem dX0_replaceRange_9 : decode cX0_replaceRange 9 = .ok (.iconst 1, 1) := by decide +kernel
theorem dX0_replaceRange_10 : decode cX0_replaceRange 10 = .ok (.iadd, 1) := by decide +kernel
theorem dX0_replaceRange_11 : decode cX0_replaceRange 11 = .ok (.invokevirtual 45, 3) := by decide +kernel
theorem dX0_replaceRange_14 : decode cX0_replaceRange 14 = .ok (.iconst 1, 1) := by decide +kernel
theorem dX0_replaceRange_15 : decode cX0_replaceRange 15 = .ok (.isub, 1) := by decide +kernel
theorem dX0_replaceRange_16 : decode cX0_replaceRange 16 = .ok (.istore 6, 2) := by decide +kernel
theorem dX0_replaceRange_18 : decode cX0_replaceRange 18 = .ok (.iload 6, 2) := by decide +kernel
theorem dX0_replaceRange_20 : decode cX0_replaceRange 20 = .ok (.iload 5, 2) := by decide +kernel
theorem dX0_replaceRange_22 : decode cX0_replaceRange 22 = .ok (.if_icmp .lt 15, 3) := by decide +kernel
theorem dX0_replaceRange_25 : decode cX0_replaceRange 25 = .ok (.aload_n 0, 1) := by decide +kernel
theorem dX0_replaceRange_26 : decode cX0_replaceRange 26 = .ok (.iload 6, 2) := by decide +kernel
theorem dX0_replaceRange_28 : decode cX0_replaceRange 28 = .ok (.invokevirtual 65, 3) := by decide +kernel
theorem dX0_replaceRange_31 : decode cX0_replaceRange 31 = .ok (.iinc 6 (-1), 3) := by decide +kernel
theorem dX0_replaceRange_34 : decode cX0_replaceRange 34 = .ok (.goto (-16), 3) := by decide +kernel
theorem dX0_replaceRange_37 : decode cX0_replaceRange 37 = .ok (.iload_n 1, 1) := by decide +kernel
theorem dX0_replaceRange_38 : decode cX0_replaceRange 38 = .ok (.iload_n 2, 1) := by decide +kernel
theorem dX0_replaceRange_39 : decode cX0_replaceRange 39 = .ok (.iload_n 3, 1) := by decide +kernel
theorem dX0_replaceRange_40 : decode cX0_replaceRange 40 = .ok (.invokestatic 69, 3) := by decide +kernel
theorem dX0_replaceRange_43 : decode cX0_replaceRange 43 = .ok (.istore 6, 2) := by decide +kernel
theorem dX0_replaceRange_45 : decode cX0_replaceRange 45 = .ok (.iconst 0, 1) := by decide +kernel
theorem dX0_replaceRange_46 : decode cX0_replaceRange 46 = .ok (.istore 7, 2) := by decide +kernel
theorem dX0_replaceRange_48 : decode cX0_replaceRange 48 = .ok (.iload 7, 2) := by decide +kernel
theorem dX0_replaceRange_50 : decode cX0_replaceRange 50 = .ok (.iload 6, 2) := by decide +kernel
theorem dX0_replaceRange_52 : decode cX0_replaceRange 52 = .ok (.if_icmp .ge 30, 3) := by decide +kernel
theorem dX0_replaceRange_55 : decode cX0_replaceRange 55 = .ok (.aload_n 0, 1) := by decide +kernel
theorem dX0_replaceRange_56 : decode cX0_replaceRange 56 = .ok (.iload_n 1, 1) := by decide +kernel
theorem dX0_replaceRange_57 : decode cX0_replaceRange 57 = .ok (.iload 7, 2) := by decide +kernel
theorem dX0_replaceRange_59 : decode cX0_replaceRange 59 = .ok (.iload_n 3, 1) := by decide +kernel
theorem dX0_replaceRange_60 : decode cX0_replaceRange 60 = .ok (.imul, 1) := by decide +kernel
theorem dX0_replaceRange_61 : decode cX0_replaceRange 61 = .ok (.iadd, 1) := by decide +kernel
theorem dX0_replaceRange_62 : decode cX0_replaceRange 62 = .ok (.aload 4, 2) := by decide +kernel
theorem dX0_replaceRange_64 : decode cX0_replaceRange 64 = .ok (.iload 7, 2) := by decide +kernel
theorem dX0_replaceRange_66 : decode cX0_replaceRange 66 = .ok (.invokestatic 53, 3) := by decide +kernel
theorem dX0_replaceRange_69 : decode cX0_replaceRange 69 = .ok (.iconst 2, 1) := by decide +kernel
theorem dX0_replaceRange_70 : decode cX0_replaceRange 70 = .ok (.iconst 0, 1) := by decide +kernel
theorem dX0_replaceRange_71 : decode cX0_replaceRange 71 = .ok (.iconst 0, 1) := by decide +kernel
theorem dX0_replaceRange_72 : decode cX0_replaceRange 72 = .ok (.invokevirtual 73, 3) := by decide +kernel
theorem dX0_replaceRange_75 : decode cX0_replaceRange 75 = .ok (.pop, 1) := by decide +kernel
theorem dX0_replaceRange_76 : decode cX0_replaceRange 76 = .ok (.iinc 7 1, 3) := by decide +kernel
theorem dX0_replaceRange_79 : decode cX0_replaceRange 79 = .ok (.goto (-31), 3) := by decide +kernel
theorem dX0_replaceRange_82 : decode cX0_replaceRange 82 = .ok (.return_, 1) := by decide +kernel
theorem dX0_move_0 : decode cX0_move 0 = .ok (.aload_n 0, 1) := by decide +kernel
theorem dX0_move_1 : decode cX0_move 1 = .ok (.getfield 22, 3) := by decide +kernel
theorem dX0_move_4 : decode cX0_move 4 = .ok (.iload_n 1, 1) := by decide +kernel
theorem dX0_move_5 : decode cX0_move 5 = .ok (.invokestatic 53, 3) := by decide +kernel
theorem dX0_move_8 : decode cX0_move 8 = .ok (.istore_n 3, 1) := by decide +kernel
theorem dX0_move_9 : decode cX0_move 9 = .ok (.aload_n 0, 1) := by decide +kernel
theorem dX0_move_10 : decode cX0_move 10 = .ok (.getfield 25, 3) := by decide +kernel
theorem dX0_move_13 : decode cX0_move 13 = .ok (.iload_n 1, 1) := by decide +kernel
theorem dX0_move_14 : decode cX0_move 14 = .ok (.invokestatic 53, 3) := by decide +kernel
theorem dX0_move_17 : decode cX0_move 17 = .ok (.istore 4, 2) := by decide +kernel
theorem dX0_move_19 : decode cX0_move 19 = .ok (.aload_n 0, 1) := by decide +kernel
theorem dX0_move_20 : decode cX0_move 20 = .ok (.getfield 28, 3) := by decide +kernel
theorem dX0_move_23 : decode cX0_move 23 = .ok (.iload_n 1, 1) := by decide +kernel
theorem dX0_move_24 : decode cX0_move 24 = .ok (.invokestatic 53, 3) := by decide +kernel
theorem dX0_move_27 : decode cX0_move 27 = .ok (.istore 5, 2) := by decide +kernel
theorem dX0_move_29 : decode cX0_move 29 = .ok (.aload_n 0, 1) := by decide +kernel
theorem dX0_move_30 : decode cX0_move 30 = .ok (.getfield 31, 3) := by decide +kernel
theorem dX0_move_33 : decode cX0_move 33 = .ok (.iload_n 1, 1) := by decide +kernel
theorem dX0_move_34 : decode cX0_move 34 = .ok (.invokestatic 53, 3) := by decide +kernel
theorem dX0_move_37 : decode cX0_move 37 = .ok (.istore 6, 2) := by decide +kernel
theorem dX0_move_39 : decode cX0_move 39 = .ok (.aload_n 0, 1) := by decide +kernel
theorem dX0_move_40 : decode cX0_move 40 = .ok (.iload_n 1, 1) := by decide +kernel
theorem dX0_move_41 : decode cX0_move 41 = .ok (.invokevirtual 65, 3) := by decide +kernel
theorem dX0_move_44 : decode cX0_move 44 = .ok (.aload_n 0, 1) := by decide +kernel
theorem dX0_move_45 : decode cX0_move 45 = .ok (.iload_n 2, 1) := by decide +kernel
theorem dX0_move_46 : decode cX0_move 46 = .ok (.iload_n 3, 1) := by decide +kernel
theorem dX0_move_47 : decode cX0_move 47 = .ok (.iload 4, 2) := by decide +kernel
theorem dX0_move_49 : decode cX0_move 49 = .ok (.iload 5, 2) := by decide +kernel
theorem dX0_move_51 : decode cX0_move 51 = .ok (.iload 6, 2) := by decide +kernel
theorem dX0_move_53 : decode cX0_move 53 = .ok (.invokevirtual 73, 3) := by decide +kernel
theorem dX0_move_56 : decode cX0_move 56 = .ok (.ireturn, 1) := by decide +kernel
theorem dX0_changeMode_0 : decode cX0_changeMode 0 = .ok (.iload_n 2, 1) := by decide +kernel
theorem dX0_changeMode_1 : decode cX0_changeMode 1 = .ok (.ifCond .ne 62, 3) := by decide +kernel
theorem dX0_changeMode_4 : decode cX0_changeMode 4 = .ok (.aload_n 0, 1) := by decide +kernel
theorem dX0_changeMode_5 : decode cX0_changeMode 5 = .ok (.getfield 25, 3) := by decide +kernel
theorem dX0_changeMode_8 : decode cX0_changeMode 8 = .ok (.iload_n 1, 1) := by decide +kernel
theorem dX0_changeMode_9 : decode cX0_changeMode 9 = .ok (.invokestatic 53, 3) := by decide +kernel
theorem dX0_changeMode_12 : decode cX0_changeMode 12 = .ok (.ifCond .eq 51, 3) := by decide +kernel
theorem dX0_changeMode_15 : decode cX0_changeMode 15 = .ok (.aload_n 0, 1) := by decide +kernel
theorem dX0_changeMode_16 : decode cX0_changeMode 16 = .ok (.iload_n 1, 1) := by decide +kernel
theorem dX0_changeMode_17 : decode cX0_changeMode 17 = .ok (.iconst 0, 1) := by decide +kernel
theorem dX0_changeMode_18 : decode cX0_changeMode 18 = .ok (.invokevirtual 77, 3) := by decide +kernel
theorem dX0_changeMode_21 : decode cX0_changeMode 21 = .ok (.istore_n 3, 1) := by decide +kernel
theorem dX0_changeMode_22 : decode cX0_changeMode 22 = .ok (.aload_n 0, 1) := by decide +kernel
theorem dX0_changeMode_23 : decode cX0_changeMode 23 = .ok (.iload_n 1, 1) := by decide +kernel
theorem dX0_changeMode_24 : decode cX0_changeMode 24 = .ok (.iconst 1, 1) := by decide +kernel
theorem dX0_changeMode_25 : decode cX0_changeMode 25 = .ok (.invokevirtual 77, 3) := by decide +kernel
theorem dX0_changeMode_28 : decode cX0_changeMode 28 = .ok (.istore 4, 2) := by decide +kernel
theorem dX0_changeMode_30 : decode cX0_changeMode 30 = .ok (.aload_n 0, 1) := by decide +kernel
theorem dX0_changeMode_31 : decode cX0_changeMode 31 = .ok (.getfield 28, 3) := by decide +kernel
theorem dX0_changeMode_34 : decode cX0_changeMode 34 = .ok (.iload_n 1, 1) := by decide +kernel
theorem dX0_changeMode_35 : decode cX0_changeMode 35 = .ok (.iload_n 3, 1) := by decide +kernel
theorem dX0_changeMode_36 : decode cX0_changeMode 36 = .ok (.i2l, 1) := by decide +kernel
theorem dX0_changeMode_37 : decode cX0_changeMode 37 = .ok (.sipush 9999, 3) := by decide +kernel
theorem dX0_changeMode_40 : decode cX0_changeMode 40 = .ok (.invokestatic 81, 3) := by decide +kernel
theorem dX0_changeMode_43 : decode cX0_changeMode 43 = .ok (.invokestatic 61, 3) := by decide +kernel
theorem dX0_changeMode_46 : decode cX0_changeMode 46 = .ok (.aload_n 0, 1) := by decide +kernel
theorem dX0_changeMode_47 : decode cX0_changeMode 47 = .ok (.getfield 31, 3) := by decide +kernel
theorem dX0_changeMode_50 : decode cX0_changeMode 50 = .ok (.iload_n 1, 1) := by decide +kernel
theorem dX0_changeMode_51 : decode cX0_changeMode 51 = .ok (.iload 4, 2) := by decide +kernel
theorem dX0_changeMode_53 : decode cX0_changeMode 53 = .ok (.i2l, 1) := by decide +kernel
theorem dX0_changeMode_54 : decode cX0_changeMode 54 = .ok (.sipush 9999, 3) := by decide +kernel
theorem dX0_changeMode_57 : decode cX0_changeMode 57 = .ok (.invokestatic 81, 3) := by decide +kernel
theorem dX0_changeMode_60 : decode cX0_changeMode 60 = .ok (.invokestatic 61, 3) := by decide +kernel
theorem dX0_changeMode_63 : decode cX0_changeMode 63 = .ok (.aload_n 0, 1) := by decide +kernel
theorem dX0_changeMode_64 : decode cX0_changeMode 64 = .ok (.getfield 25, 3) := by decide +kernel
theorem dX0_changeMode_67 : decode cX0_changeMode 67 = .ok (.iload_n 1, 1) := by decide +kernel
theorem dX0_changeMode_68 : decode cX0_changeMode 68 = .ok (.iload_n 2, 1) := by decide +kernel
theorem dX0_changeMode_69 : decode cX0_changeMode 69 = .ok (.invokestatic 61, 3) := by decide +kernel
theorem dX0_changeMode_72 : decode cX0_changeMode 72 = .ok (.return_, 1) := by decide +kernel
theorem dX0_divide_0 : decode cX0_divide 0 = .ok (.aload_n 0, 1) := by decide +kernel
theorem dX0_divide_1 : decode cX0_divide 1 = .ok (.getfield 25, 3) := by decide +kernel
theorem dX0_divide_4 : decode cX0_divide 4 = .ok (.iload_n 2, 1) := by decide +kernel
theorem dX0_divide_5 : decode cX0_divide 5 = .ok (.iconst 1, 1) := by decide +kernel
theorem dX0_divide_6 : decode cX0_divide 6 = .ok (.isub, 1) := by decide +kernel
theorem dX0_divide_7 : decode cX0_divide 7 = .ok (.invokestatic 53, 3) := by decide +kernel
theorem dX0_divide_10 : decode cX0_divide 10 = .ok (.bipush 6, 2) := by decide +kernel
theorem dX0_divide_12 : decode cX0_divide 12 = .ok (.if_icmp .ne 7, 3) := by decide +kernel
theorem dX0_divide_15 : decode cX0_divide 15 = .ok (.iconst 1, 1) := by decide +kernel
theorem dX0_divide_16 : decode cX0_divide 16 = .ok (.goto 4, 3) := by decide +kernel
theorem dX0_divide_19 : decode cX0_divide 19 = .ok (.iconst 0, 1) := by decide +kernel
theorem dX0_divide_20 : decode cX0_divide 20 = .ok (.istore_n 3, 1) := by decide +kernel
theorem dX0_divide_21 : decode cX0_divide 21 = .ok (.iload_n 3, 1) := by decide +kernel
theorem dX0_divide_22 : decode cX0_divide 22 = .ok (.ifCond .eq 16, 3) := by decide +kernel
theorem dX0_divide_25 : decode cX0_divide 25 = .ok (.aload_n 0, 1) := by decide +kernel
theorem dX0_divide_26 : decode cX0_divide 26 = .ok (.getfield 22, 3) := by decide +kernel
theorem dX0_divide_29 : decode cX0_divide 29 = .ok (.iload_n 2, 1) := by decide +kernel
theorem dX0_divide_30 : decode cX0_divide 30 = .ok (.iconst 1, 1) := by decide +kernel
theorem dX0_divide_31 : decode cX0_divide 31 = .ok (.isub, 1) := by decide +kernel
theorem dX0_divide_32 : decode cX0_divide 32 = .ok (.invokestatic 53, 3) := by decide +kernel
theorem dX0_divide_35 : decode cX0_divide 35 = .ok (.goto 11, 3) := by decide +kernel
theorem dX0_divide_38 : decode cX0_divide 38 = .ok (.aload_n 0, 1) := by decide +kernel
theorem dX0_divide_39 : decode cX0_divide 39 = .ok (.iload_n 1, 1) := by decide +kernel
theorem dX0_divide_40 : decode cX0_divide 40 = .ok (.invokevirtual 85, 3) := by decide +kernel
theorem dX0_divide_43 : decode cX0_divide 43 = .ok (.invokestatic 88, 3) := by decide +kernel
theorem dX0_divide_46 : decode cX0_divide 46 = .ok (.istore 4, 2) := by decide +kernel
theorem dX0_divide_48 : decode cX0_divide 48 = .ok (.aload_n 0, 1) := by decide +kernel
theorem dX0_divide_49 : decode cX0_divide 49 = .ok (.iload_n 1, 1) := by decide +kernel
theorem dX0_divide_50 : decode cX0_divide 50 = .ok (.iconst 1, 1) := by decide +kernel
theorem dX0_divide_51 : decode cX0_divide 51 = .ok (.iadd, 1) := by decide +kernel
theorem dX0_divide_52 : decode cX0_divide 52 = .ok (.invokevirtual 85, 3) := by decide +kernel
theorem dX0_divide_55 : decode cX0_divide 55 = .ok (.i2l, 1) := by decide +kernel
theorem dX0_divide_56 : decode cX0_divide 56 = .ok (.aload_n 0, 1) := by decide +kernel
theorem dX0_divide_57 : decode cX0_divide 57 = .ok (.iload_n 1, 1) := by decide +kernel
theorem dX0_divide_58 : decode cX0_divide 58 = .ok (.iconst 1, 1) := by decide +kernel
theorem dX0_divide_59 : decode cX0_divide 59 = .ok (.isub, 1) := by decide +kernel
theorem dX0_divide_60 : decode cX0_divide 60 = .ok (.invokevirtual 85, 3) := by decide +kernel
theorem dX0_divide_63 : decode cX0_divide 63 = .ok (.i2l, 1) := by decide +kernel
theorem dX0_divide_64 : decode cX0_divide 64 = .ok (.lsub, 1) := by decide +kernel
theorem dX0_divide_65 : decode cX0_divide 65 = .ok (.lstore 5, 2) := by decide +kernel
theorem dX0_divide_67 : decode cX0_divide 67 = .ok (.lload 5, 2) := by decide +kernel
theorem dX0_divide_69 : decode cX0_divide 69 = .ok (.ldc2_w 91, 3) := by decide +kernel
theorem dX0_divide_72 : decode cX0_divide 72 = .ok (.invokestatic 93, 3) := by decide +kernel
theorem dX0_divide_75 : decode cX0_divide 75 = .ok (.sipush 9999, 3) := by decide +kernel
theorem dX0_divide_78 : decode cX0_divide 78 = .ok (.invokestatic 81, 3) := by decide +kernel
theorem dX0_divide_81 : decode cX0_divide 81 = .ok (.istore 7, 2) := by decide +kernel
theorem dX0_divide_83 : decode cX0_divide 83 = .ok (.aload_n 0, 1) := by decide +kernel
theorem dX0_divide_84 : decode cX0_divide 84 = .ok (.iload_n 2, 1) := by decide +kernel
theorem dX0_divide_85 : decode cX0_divide 85 = .ok (.iconst 1, 1) := by decide +kernel
theorem dX0_divide_86 : decode cX0_divide 86 = .ok (.isub, 1) := by decide +kernel
theorem dX0_divide_87 : decode cX0_divide 87 = .ok (.invokevirtual 97, 3) := by decide +kernel
theorem dX0_divide_90 : decode cX0_divide 90 = .ok (.aload_n 0, 1) := by decide +kernel
theorem dX0_divide_91 : decode cX0_divide 91 = .ok (.iload_n 2, 1) := by decide +kernel
theorem dX0_divide_92 : decode cX0_divide 92 = .ok (.invokevirtual 97, 3) := by decide +kernel
theorem dX0_divide_95 : decode cX0_divide 95 = .ok (.aload_n 0, 1) := by decide +kernel
theorem dX0_divide_96 : decode cX0_divide 96 = .ok (.iload_n 1, 1) := by decide +kernel
theorem dX0_divide_97 : decode cX0_divide 97 = .ok (.iload 4, 2) := by decide +kernel
theorem dX0_divide_99 : decode cX0_divide 99 = .ok (.iload_n 3, 1) := by decide +kernel
theorem dX0_divide_100 : decode cX0_divide 100 = .ok (.ifCond .eq 8, 3) := by decide +kernel
theorem dX0_divide_103 : decode cX0_divide 103 = .ok (.bipush 6, 2) := by decide +kernel
theorem dX0_divide_105 : decode cX0_divide 105 = .ok (.goto 4, 3) := by decide +kernel
theorem dX0_divide_108 : decode cX0_divide 108 = .ok (.iconst 0, 1) := by decide +kernel
theorem dX0_divide_109 : decode cX0_divide 109 = .ok (.iload 7, 2) := by decide +kernel
theorem dX0_divide_111 : decode cX0_divide 111 = .ok (.iload 7, 2) := by decide +kernel
theorem dX0_divide_113 : decode cX0_divide 113 = .ok (.invokevirtual 73, 3) := by decide +kernel
theorem dX0_divide_116 : decode cX0_divide 116 = .ok (.ireturn, 1) := by decide +kernel
theorem dX0_freeUnlessHold_0 : decode cX0_freeUnlessHold 0 = .ok (.aload_n 0, 1) := by decide +kernel
theorem dX0_freeUnlessHold_1 : decode cX0_freeUnlessHold 1 = .ok (.getfield 25, 3) := by decide +kernel
theorem dX0_freeUnlessHold_4 : decode cX0_freeUnlessHold 4 = .ok (.iload_n 1, 1) := by decide +kernel
theorem dX0_freeUnlessHold_5 : decode cX0_freeUnlessHold 5 = .ok (.invokestatic 53, 3) := by decide +kernel
theorem dX0_freeUnlessHold_8 : decode cX0_freeUnlessHold 8 = .ok (.bipush 6, 2) := by decide +kernel
theorem dX0_freeUnlessHold_10 : decode cX0_freeUnlessHold 10 = .ok (.if_icmp .eq 9, 3) := by decide +kernel
theorem dX0_freeUnlessHold_13 : decode cX0_freeUnlessHold 13 = .ok (.aload_n 0, 1) := by decide +kernel
theorem dX0_freeUnlessHold_14 : decode cX0_freeUnlessHold 14 = .ok (.iload_n 1, 1) := by decide +kernel
theorem dX0_freeUnlessHold_15 : decode cX0_freeUnlessHold 15 = .ok (.iconst 0, 1) := by decide +kernel
theorem dX0_freeUnlessHold_16 : decode cX0_freeUnlessHold 16 = .ok (.invokevirtual 100, 3) := by decide +kernel
theorem dX0_freeUnlessHold_19 : decode cX0_freeUnlessHold 19 = .ok (.return_, 1) := by decide +kernel
theorem dX0_retimeKeys_0 : decode cX0_retimeKeys 0 = .ok (.iconst 0, 1) := by decide +kernel
theorem dX0_retimeKeys_1 : decode cX0_retimeKeys 1 = .ok (.istore_n 3, 1) := by decide +kernel
theorem dX0_retimeKeys_2 : decode cX0_retimeKeys 2 = .ok (.iload_n 3, 1) := by decide +kernel
theorem dX0_retimeKeys_3 : decode cX0_retimeKeys 3 = .ok (.aload_n 0, 1) := by decide +kernel
theorem dX0_retimeKeys_4 : decode cX0_retimeKeys 4 = .ok (.getfield 38, 3) := by decide +kernel
theorem dX0_retimeKeys_7 : decode cX0_retimeKeys 7 = .ok (.if_icmp .ge 89, 3) := by decide +kernel
theorem dX0_retimeKeys_10 : decode cX0_retimeKeys 10 = .ok (.aload_n 0, 1) := by decide +kernel
theorem dX0_retimeKeys_11 : decode cX0_retimeKeys 11 = .ok (.getfield 18, 3) := by decide +kernel
theorem dX0_retimeKeys_14 : decode cX0_retimeKeys 14 = .ok (.iload_n 3, 1) := by decide +kernel
theorem dX0_retimeKeys_15 : decode cX0_retimeKeys 15 = .ok (.invokestatic 53, 3) := by decide +kernel
theorem dX0_retimeKeys_18 : decode cX0_retimeKeys 18 = .ok (.istore 4, 2) := by decide +kernel
theorem dX0_retimeKeys_20 : decode cX0_retimeKeys 20 = .ok (.aload_n 0, 1) := by decide +kernel
theorem dX0_retimeKeys_21 : decode cX0_retimeKeys 21 = .ok (.getfield 25, 3) := by decide +kernel
theorem dX0_retimeKeys_24 : decode cX0_retimeKeys 24 = .ok (.iload_n 3, 1) := by decide +kernel
theorem dX0_retimeKeys_25 : decode cX0_retimeKeys 25 = .ok (.invokestatic 53, 3) := by decide +kernel
theorem dX0_retimeKeys_28 : decode cX0_retimeKeys 28 = .ok (.ifCond .ne 49, 3) := by decide +kernel
theorem dX0_retimeKeys_31 : decode cX0_retimeKeys 31 = .ok (.aload_n 0, 1) := by decide +kernel
theorem dX0_retimeKeys_32 : decode cX0_retimeKeys 32 = .ok (.getfield 28, 3) := by decide +kernel
theorem dX0_retimeKeys_35 : decode cX0_retimeKeys 35 = .ok (.iload_n 3, 1) := by decide +kernel
theorem dX0_retimeKeys_36 : decode cX0_retimeKeys 36 = .ok (.aload_n 1, 1) := by decide +kernel
theorem dX0_retimeKeys_37 : decode cX0_retimeKeys 37 = .ok (.aload_n 0, 1) := by decide +kernel
theorem dX0_retimeKeys_38 : decode cX0_retimeKeys 38 = .ok (.getfield 28, 3) := by decide +kernel
theorem dX0_retimeKeys_41 : decode cX0_retimeKeys 41 = .ok (.iload_n 3, 1) := by decide +kernel
theorem dX0_retimeKeys_42 : decode cX0_retimeKeys 42 = .ok (.invokestatic 53, 3) := by decide +kernel
theorem dX0_retimeKeys_45 : decode cX0_retimeKeys 45 = .ok (.iload 4, 2) := by decide +kernel
theorem dX0_retimeKeys_47 : decode cX0_retimeKeys 47 = .ok (.iconst 0, 1) := by decide +kernel
theorem dX0_retimeKeys_48 : decode cX0_retimeKeys 48 = .ok (.invokevirtual 103, 3) := by decide +kernel
theorem dX0_retimeKeys_51 : decode cX0_retimeKeys 51 = .ok (.invokestatic 61, 3) := by decide +kernel
theorem dX0_retimeKeys_54 : decode cX0_retimeKeys 54 = .ok (.aload_n 0, 1) := by decide +kernel
theorem dX0_retimeKeys_55 : decode cX0_retimeKeys 55 = .ok (.getfield 31, 3) := by decide +kernel
theorem dX0_retimeKeys_58 : decode cX0_retimeKeys 58 = .ok (.iload_n 3, 1) := by decide +kernel
theorem dX0_retimeKeys_59 : decode cX0_retimeKeys 59 = .ok (.aload_n 1, 1) := by decide +kernel
theorem dX0_retimeKeys_60 : decode cX0_retimeKeys 60 = .ok (.aload_n 0, 1) := by decide +kernel
theorem dX0_retimeKeys_61 : decode cX0_retimeKeys 61 = .ok (.getfield 31, 3) := by decide +kernel
theorem dX0_retimeKeys_64 : decode cX0_retimeKeys 64 = .ok (.iload_n 3, 1) := by decide +kernel
theorem dX0_retimeKeys_65 : decode cX0_retimeKeys 65 = .ok (.invokestatic 53, 3) := by decide +kernel
theorem dX0_retimeKeys_68 : decode cX0_retimeKeys 68 = .ok (.iload 4, 2) := by decide +kernel
theorem dX0_retimeKeys_70 : decode cX0_retimeKeys 70 = .ok (.iconst 1, 1) := by decide +kernel
theorem dX0_retimeKeys_71 : decode cX0_retimeKeys 71 = .ok (.invokevirtual 103, 3) := by decide +kernel
theorem dX0_retimeKeys_74 : decode cX0_retimeKeys 74 = .ok (.invokestatic 61, 3) := by decide +kernel
theorem dX0_retimeKeys_77 : decode cX0_retimeKeys 77 = .ok (.aload_n 0, 1) := by decide +kernel
theorem dX0_retimeKeys_78 : decode cX0_retimeKeys 78 = .ok (.getfield 18, 3) := by decide +kernel
theorem dX0_retimeKeys_81 : decode cX0_retimeKeys 81 = .ok (.iload_n 3, 1) := by decide +kernel
theorem dX0_retimeKeys_82 : decode cX0_retimeKeys 82 = .ok (.aload_n 2, 1) := by decide +kernel
theorem dX0_retimeKeys_83 : decode cX0_retimeKeys 83 = .ok (.iload_n 3, 1) := by decide +kernel
theorem dX0_retimeKeys_84 : decode cX0_retimeKeys 84 = .ok (.invokestatic 53, 3) := by decide +kernel
theorem dX0_retimeKeys_87 : decode cX0_retimeKeys 87 = .ok (.invokestatic 61, 3) := by decide +kernel
theorem dX0_retimeKeys_90 : decode cX0_retimeKeys 90 = .ok (.iinc 3 1, 3) := by decide +kernel
theorem dX0_retimeKeys_93 : decode cX0_retimeKeys 93 = .ok (.goto (-91), 3) := by decide +kernel
theorem dX0_retimeKeys_96 : decode cX0_retimeKeys 96 = .ok (.return_, 1) := by decide +kernel
theorem dX0_tangent_0 : decode cX0_tangent 0 = .ok (.aload_n 0, 1) := by decide +kernel
theorem dX0_tangent_1 : decode cX0_tangent 1 = .ok (.getfield 25, 3) := by decide +kernel
theorem dX0_tangent_4 : decode cX0_tangent 4 = .ok (.iload_n 1, 1) := by decide +kernel
theorem dX0_tangent_5 : decode cX0_tangent 5 = .ok (.invokestatic 53, 3) := by decide +kernel
theorem dX0_tangent_8 : decode cX0_tangent 8 = .ok (.istore_n 3, 1) := by decide +kernel
theorem dX0_tangent_9 : decode cX0_tangent 9 = .ok (.iload_n 3, 1) := by decide +kernel
theorem dX0_tangent_10 : decode cX0_tangent 10 = .ok (.ifCond .ne 23, 3) := by decide +kernel
theorem dX0_tangent_13 : decode cX0_tangent 13 = .ok (.iload_n 2, 1) := by decide +kernel
theorem dX0_tangent_14 : decode cX0_tangent 14 = .ok (.ifCond .eq 10, 3) := by decide +kernel
theorem dX0_tangent_17 : decode cX0_tangent 17 = .ok (.aload_n 0, 1) := by decide +kernel
theorem dX0_tangent_18 : decode cX0_tangent 18 = .ok (.getfield 31, 3) := by decide +kernel
theorem dX0_tangent_21 : decode cX0_tangent 21 = .ok (.goto 7, 3) := by decide +kernel
theorem dX0_tangent_24 : decode cX0_tangent 24 = .ok (.aload_n 0, 1) := by decide +kernel
theorem dX0_tangent_25 : decode cX0_tangent 25 = .ok (.getfield 28, 3) := by decide +kernel
theorem dX0_tangent_28 : decode cX0_tangent 28 = .ok (.iload_n 1, 1) := by decide +kernel
theorem dX0_tangent_29 : decode cX0_tangent 29 = .ok (.invokestatic 53, 3) := by decide +kernel
theorem dX0_tangent_32 : decode cX0_tangent 32 = .ok (.ireturn, 1) := by decide +kernel
theorem dX0_tangent_33 : decode cX0_tangent 33 = .ok (.aload_n 0, 1) := by decide +kernel
theorem dX0_tangent_34 : decode cX0_tangent 34 = .ok (.getfield 38, 3) := by decide +kernel
theorem dX0_tangent_37 : decode cX0_tangent 37 = .ok (.iconst 2, 1) := by decide +kernel
theorem dX0_tangent_38 : decode cX0_tangent 38 = .ok (.if_icmp .lt 14, 3) := by decide +kernel
theorem dX0_tangent_41 : decode cX0_tangent 41 = .ok (.iload_n 3, 1) := by decide +kernel
theorem dX0_tangent_42 : decode cX0_tangent 42 = .ok (.iconst 1, 1) := by decide +kernel
theorem dX0_tangent_43 : decode cX0_tangent 43 = .ok (.if_icmp .eq 9, 3) := by decide +kernel
theorem dX0_tangent_46 : decode cX0_tangent 46 = .ok (.iload_n 3, 1) := by decide +kernel
theorem dX0_tangent_47 : decode cX0_tangent 47 = .ok (.bipush 6, 2) := by decide +kernel
theorem dX0_tangent_49 : decode cX0_tangent 49 = .ok (.if_icmp .ne 5, 3) := by decide +kernel
theorem dX0_tangent_52 : decode cX0_tangent 52 = .ok (.iconst 0, 1) := by decide +kernel
theorem dX0_tangent_53 : decode cX0_tangent 53 = .ok (.ireturn, 1) := by decide +kernel
theorem dX0_tangent_54 : decode cX0_tangent 54 = .ok (.iload_n 1, 1) := by decide +kernel
theorem dX0_tangent_55 : decode cX0_tangent 55 = .ok (.ifCond .ne 7, 3) := by decide +kernel
theorem dX0_tangent_58 : decode cX0_tangent 58 = .ok (.iconst 1, 1) := by decide +kernel
theorem dX0_tangent_59 : decode cX0_tangent 59 = .ok (.goto 4, 3) := by decide +kernel
theorem dX0_tangent_62 : decode cX0_tangent 62 = .ok (.iconst 0, 1) := by decide +kernel
theorem dX0_tangent_63 : decode cX0_tangent 63 = .ok (.istore 4, 2) := by decide +kernel
theorem dX0_tangent_65 : decode cX0_tangent 65 = .ok (.iload_n 1, 1) := by decide +kernel
theorem dX0_tangent_66 : decode cX0_tangent 66 = .ok (.aload_n 0, 1) := by decide +kernel
theorem dX0_tangent_67 : decode cX0_tangent 67 = .ok (.getfield 38, 3) := by decide +kernel
theorem dX0_tangent_70 : decode cX0_tangent 70 = .ok (.iconst 1, 1) := by decide +kernel
theorem dX0_tangent_71 : decode cX0_tangent 71 = .ok (.isub, 1) := by decide +kernel
theorem dX0_tangent_72 : decode cX0_tangent 72 = .ok (.if_icmp .ne 7, 3) := by decide +kernel
theorem dX0_tangent_75 : decode cX0_tangent 75 = .ok (.iconst 1, 1) := by decide +kernel
theorem dX0_tangent_76 : decode cX0_tangent 76 = .ok (.goto 4, 3) := by decide +kernel
theorem dX0_tangent_79 : decode cX0_tangent 79 = .ok (.iconst 0, 1) := by decide +kernel
theorem dX0_tangent_80 : decode cX0_tangent 80 = .ok (.istore 5, 2) := by decide +kernel
theorem dX0_tangent_82 : decode cX0_tangent 82 = .ok (.iload_n 3, 1) := by decide +kernel
theorem dX0_tangent_83 : decode cX0_tangent 83 = .ok (.iconst 2, 1) := by decide +kernel
theorem dX0_tangent_84 : decode cX0_tangent 84 = .ok (.if_icmp .ne 37, 3) := by decide +kernel
theorem dX0_tangent_87 : decode cX0_tangent 87 = .ok (.iload 4, 2) := by decide +kernel
theorem dX0_tangent_89 : decode cX0_tangent 89 = .ok (.ifCond .ne 12, 3) := by decide +kernel
theorem dX0_tangent_92 : decode cX0_tangent 92 = .ok (.iload_n 2, 1) := by decide +kernel
theorem dX0_tangent_93 : decode cX0_tangent 93 = .ok (.ifCond .eq 19, 3) := by decide +kernel
theorem dX0_tangent_96 : decode cX0_tangent 96 = .ok (.iload 5, 2) := by decide +kernel
theorem dX0_tangent_98 : decode cX0_tangent 98 = .ok (.ifCond .ne 14, 3) := by decide +kernel
theorem dX0_tangent_101 : decode cX0_tangent 101 = .ok (.aload_n 0, 1) := by decide +kernel
theorem dX0_tangent_102 : decode cX0_tangent 102 = .ok (.iload_n 1, 1) := by decide +kernel
theorem dX0_tangent_103 : decode cX0_tangent 103 = .ok (.iload_n 1, 1) := by decide +kernel
theorem dX0_tangent_104 : decode cX0_tangent 104 = .ok (.iconst 1, 1) := by decide +kernel
theorem dX0_tangent_105 : decode cX0_tangent 105 = .ok (.iadd, 1) := by decide +kernel
theorem dX0_tangent_106 : decode cX0_tangent 106 = .ok (.invokevirtual 109, 3) := by decide +kernel
theorem dX0_tangent_109 : decode cX0_tangent 109 = .ok (.goto 11, 3) := by decide +kernel
theorem dX0_tangent_112 : decode cX0_tangent 112 = .ok (.aload_n 0, 1) := by decide +kernel
theorem dX0_tangent_113 : decode cX0_tangent 113 = .ok (.iload_n 1, 1) := by decide +kernel
theorem dX0_tangent_114 : decode cX0_tangent 114 = .ok (.iconst 1, 1) := by decide +kernel
theorem dX0_tangent_115 : decode cX0_tangent 115 = .ok (.isub, 1) := by decide +kernel
theorem dX0_tangent_116 : decode cX0_tangent 116 = .ok (.iload_n 1, 1) := by decide +kernel
theorem dX0_tangent_117 : decode cX0_tangent 117 = .ok (.invokevirtual 109, 3) := by decide +kernel
theorem dX0_tangent_120 : decode cX0_tangent 120 = .ok (.ireturn, 1) := by decide +kernel
theorem dX0_tangent_121 : decode cX0_tangent 121 = .ok (.aload_n 0, 1) := by decide +kernel
theorem dX0_tangent_122 : decode cX0_tangent 122 = .ok (.iload 4, 2) := by decide +kernel
theorem dX0_tangent_124 : decode cX0_tangent 124 = .ok (.ifCond .eq 7, 3) := by decide +kernel
theorem dX0_tangent_127 : decode cX0_tangent 127 = .ok (.iload_n 1, 1) := by decide +kernel
theorem dX0_tangent_128 : decode cX0_tangent 128 = .ok (.goto 6, 3) := by decide +kernel
theorem dX0_tangent_131 : decode cX0_tangent 131 = .ok (.iload_n 1, 1) := by decide +kernel
theorem dX0_tangent_132 : decode cX0_tangent 132 = .ok (.iconst 1, 1) := by decide +kernel
theorem dX0_tangent_133 : decode cX0_tangent 133 = .ok (.isub, 1) := by decide +kernel
theorem dX0_tangent_134 : decode cX0_tangent 134 = .ok (.iload 5, 2) := by decide +kernel
theorem dX0_tangent_136 : decode cX0_tangent 136 = .ok (.ifCond .eq 7, 3) := by decide +kernel
theorem dX0_tangent_139 : decode cX0_tangent 139 = .ok (.iload_n 1, 1) := by decide +kernel
theorem dX0_tangent_140 : decode cX0_tangent 140 = .ok (.goto 6, 3) := by decide +kernel
theorem dX0_tangent_143 : decode cX0_tangent 143 = .ok (.iload_n 1, 1) := by decide +kernel
theorem dX0_tangent_144 : decode cX0_tangent 144 = .ok (.iconst 1, 1) := by decide +kernel
theorem dX0_tangent_145 : decode cX0_tangent 145 = .ok (.iadd, 1) := by decide +kernel
theorem dX0_tangent_146 : decode cX0_tangent 146 = .ok (.invokevirtual 109, 3) := by decide +kernel
theorem dX0_tangent_149 : decode cX0_tangent 149 = .ok (.istore 6, 2) := by decide +kernel
theorem dX0_tangent_151 : decode cX0_tangent 151 = .ok (.iload_n 3, 1) := by decide +kernel
theorem dX0_tangent_152 : decode cX0_tangent 152 = .ok (.iconst 3, 1) := by decide +kernel
theorem dX0_tangent_153 : decode cX0_tangent 153 = .ok (.if_icmp .ne 6, 3) := by decide +kernel
theorem dX0_tangent_156 : decode cX0_tangent 156 = .ok (.iload 6, 2) := by decide +kernel
theorem dX0_tangent_158 : decode cX0_tangent 158 = .ok (.ireturn, 1) := by decide +kernel
theorem dX0_tangent_159 : decode cX0_tangent 159 = .ok (.iload 4, 2) := by decide +kernel
theorem dX0_tangent_161 : decode cX0_tangent 161 = .ok (.ifCond .ne 8, 3) := by decide +kernel
theorem dX0_tangent_164 : decode cX0_tangent 164 = .ok (.iload 5, 2) := by decide +kernel
theorem dX0_tangent_166 : decode cX0_tangent 166 = .ok (.ifCond .eq 5, 3) := by decide +kernel
theorem dX0_tangent_169 : decode cX0_tangent 169 = .ok (.iconst 0, 1) := by decide +kernel
theorem dX0_tangent_170 : decode cX0_tangent 170 = .ok (.ireturn, 1) := by decide +kernel
theorem dX0_tangent_171 : decode cX0_tangent 171 = .ok (.iload_n 3, 1) := by decide +kernel
theorem dX0_tangent_172 : decode cX0_tangent 172 = .ok (.iconst 4, 1) := by decide +kernel
theorem dX0_tangent_173 : decode cX0_tangent 173 = .ok (.if_icmp .ne 18, 3) := by decide +kernel
theorem dX0_tangent_176 : decode cX0_tangent 176 = .ok (.aload_n 0, 1) := by decide +kernel
theorem dX0_tangent_177 : decode cX0_tangent 177 = .ok (.iload_n 1, 1) := by decide +kernel
theorem dX0_tangent_178 : decode cX0_tangent 178 = .ok (.invokevirtual 113, 3) := by decide +kernel
theorem dX0_tangent_181 : decode cX0_tangent 181 = .ok (.ifCond .eq 8, 3) := by decide +kernel
theorem dX0_tangent_184 : decode cX0_tangent 184 = .ok (.iload 6, 2) := by decide +kernel
theorem dX0_tangent_186 : decode cX0_tangent 186 = .ok (.goto 4, 3) := by decide +kernel
theorem dX0_tangent_189 : decode cX0_tangent 189 = .ok (.iconst 0, 1) := by decide +kernel
theorem dX0_tangent_190 : decode cX0_tangent 190 = .ok (.ireturn, 1) := by decide +kernel
theorem dX0_tangent_191 : decode cX0_tangent 191 = .ok (.iload 6, 2) := by decide +kernel
theorem dX0_tangent_193 : decode cX0_tangent 193 = .ok (.aload_n 0, 1) := by decide +kernel
theorem dX0_tangent_194 : decode cX0_tangent 194 = .ok (.iload_n 1, 1) := by decide +kernel
theorem dX0_tangent_195 : decode cX0_tangent 195 = .ok (.iconst 1, 1) := by decide +kernel
theorem dX0_tangent_196 : decode cX0_tangent 196 = .ok (.isub, 1) := by decide +kernel
theorem dX0_tangent_197 : decode cX0_tangent 197 = .ok (.iload_n 1, 1) := by decide +kernel
theorem dX0_tangent_198 : decode cX0_tangent 198 = .ok (.invokevirtual 109, 3) := by decide +kernel
theorem dX0_tangent_201 : decode cX0_tangent 201 = .ok (.aload_n 0, 1) := by decide +kernel
theorem dX0_tangent_202 : decode cX0_tangent 202 = .ok (.iload_n 1, 1) := by decide +kernel
theorem dX0_tangent_203 : decode cX0_tangent 203 = .ok (.iload_n 1, 1) := by decide +kernel
theorem dX0_tangent_204 : decode cX0_tangent 204 = .ok (.iconst 1, 1) := by decide +kernel
theorem dX0_tangent_205 : decode cX0_tangent 205 = .ok (.iadd, 1) := by decide +kernel
theorem dX0_tangent_206 : decode cX0_tangent 206 = .ok (.invokevirtual 109, 3) := by decide +kernel
theorem dX0_tangent_209 : decode cX0_tangent 209 = .ok (.invokestatic 116, 3) := by decide +kernel
theorem dX0_tangent_212 : decode cX0_tangent 212 = .ok (.ireturn, 1) := by decide +kernel
theorem dX0_secant_0 : decode cX0_secant 0 = .ok (.aload_n 0, 1) := by decide +kernel
theorem dX0_secant_1 : decode cX0_secant 1 = .ok (.getfield 22, 3) := by decide +kernel
theorem dX0_secant_4 : decode cX0_secant 4 = .ok (.iload_n 2, 1) := by decide +kernel
theorem dX0_secant_5 : decode cX0_secant 5 = .ok (.invokestatic 53, 3) := by decide +kernel
theorem dX0_secant_8 : decode cX0_secant 8 = .ok (.i2l, 1) := by decide +kernel
theorem dX0_secant_9 : decode cX0_secant 9 = .ok (.aload_n 0, 1) := by decide +kernel
theorem dX0_secant_10 : decode cX0_secant 10 = .ok (.getfield 22, 3) := by decide +kernel
theorem dX0_secant_13 : decode cX0_secant 13 = .ok (.iload_n 1, 1) := by decide +kernel
theorem dX0_secant_14 : decode cX0_secant 14 = .ok (.invokestatic 53, 3) := by decide +kernel
theorem dX0_secant_17 : decode cX0_secant 17 = .ok (.i2l, 1) := by decide +kernel
theorem dX0_secant_18 : decode cX0_secant 18 = .ok (.lsub, 1) := by decide +kernel
theorem dX0_secant_19 : decode cX0_secant 19 = .ok (.lstore_n 3, 1) := by decide +kernel
theorem dX0_secant_20 : decode cX0_secant 20 = .ok (.ldc2_w 119, 3) := by decide +kernel
theorem dX0_secant_23 : decode cX0_secant 23 = .ok (.lload_n 3, 1) := by decide +kernel
theorem dX0_secant_24 : decode cX0_secant 24 = .ok (.lmul, 1) := by decide +kernel
theorem dX0_secant_25 : decode cX0_secant 25 = .ok (.aload_n 0, 1) := by decide +kernel
theorem dX0_secant_26 : decode cX0_secant 26 = .ok (.getfield 18, 3) := by decide +kernel
theorem dX0_secant_29 : decode cX0_secant 29 = .ok (.iload_n 2, 1) := by decide +kernel
theorem dX0_secant_30 : decode cX0_secant 30 = .ok (.invokestatic 53, 3) := by decide +kernel
theorem dX0_secant_33 : decode cX0_secant 33 = .ok (.aload_n 0, 1) := by decide +kernel
theorem dX0_secant_34 : decode cX0_secant 34 = .ok (.getfield 18, 3) := by decide +kernel
theorem dX0_secant_37 : decode cX0_secant 37 = .ok (.iload_n 1, 1) := by decide +kernel
theorem dX0_secant_38 : decode cX0_secant 38 = .ok (.invokestatic 53, 3) := by decide +kernel
theorem dX0_secant_41 : decode cX0_secant 41 = .ok (.isub, 1) := by decide +kernel
theorem dX0_secant_42 : decode cX0_secant 42 = .ok (.i2l, 1) := by decide +kernel
theorem dX0_secant_43 : decode cX0_secant 43 = .ok (.invokestatic 93, 3) := by decide +kernel
theorem dX0_secant_46 : decode cX0_secant 46 = .ok (.l2i, 1) := by decide +kernel
theorem dX0_secant_47 : decode cX0_secant 47 = .ok (.ireturn, 1) := by decide +kernel
theorem dX0_isBetweenNeighbors_0 : decode cX0_isBetweenNeighbors 0 = .ok (.aload_n 0, 1) := by decide +kernel
theorem dX0_isBetweenNeighbors_1 : decode cX0_isBetweenNeighbors 1 = .ok (.getfield 22, 3) := by decide +kernel
theorem dX0_isBetweenNeighbors_4 : decode cX0_isBetweenNeighbors 4 = .ok (.iload_n 1, 1) := by decide +kernel
theorem dX0_isBetweenNeighbors_5 : decode cX0_isBetweenNeighbors 5 = .ok (.invokestatic 53, 3) := by decide +kernel
theorem dX0_isBetweenNeighbors_8 : decode cX0_isBetweenNeighbors 8 = .ok (.istore_n 2, 1) := by decide +kernel
theorem dX0_isBetweenNeighbors_9 : decode cX0_isBetweenNeighbors 9 = .ok (.aload_n 0, 1) := by decide +kernel
theorem dX0_isBetweenNeighbors_10 : decode cX0_isBetweenNeighbors 10 = .ok (.getfield 22, 3) := by decide +kernel
theorem dX0_isBetweenNeighbors_13 : decode cX0_isBetweenNeighbors 13 = .ok (.iload_n 1, 1) := by decide +kernel
theorem dX0_isBetweenNeighbors_14 : decode cX0_isBetweenNeighbors 14 = .ok (.iconst 1, 1) := by decide +kernel
theorem dX0_isBetweenNeighbors_15 : decode cX0_isBetweenNeighbors 15 = .ok (.isub, 1) := by decide +kernel
theorem dX0_isBetweenNeighbors_16 : decode cX0_isBetweenNeighbors 16 = .ok (.invokestatic 53, 3) := by decide +kernel
theorem dX0_isBetweenNeighbors_19 : decode cX0_isBetweenNeighbors 19 = .ok (.istore_n 3, 1) := by decide +kernel
theorem dX0_isBetweenNeighbors_20 : decode cX0_isBetweenNeighbors 20 = .ok (.aload_n 0, 1) := by decide +kernel
theorem dX0_isBetweenNeighbors_21 : decode cX0_isBetweenNeighbors 21 = .ok (.getfield 22, 3) := by decide +kernel
theorem dX0_isBetweenNeighbors_24 : decode cX0_isBetweenNeighbors 24 = .ok (.iload_n 1, 1) := by decide +kernel
theorem dX0_isBetweenNeighbors_25 : decode cX0_isBetweenNeighbors 25 = .ok (.iconst 1, 1) := by decide +kernel
theorem dX0_isBetweenNeighbors_26 : decode cX0_isBetweenNeighbors 26 = .ok (.iadd, 1) := by decide +kernel
theorem dX0_isBetweenNeighbors_27 : decode cX0_isBetweenNeighbors 27 = .ok (.invokestatic 53, 3) := by decide +kernel
theorem dX0_isBetweenNeighbors_30 : decode cX0_isBetweenNeighbors 30 = .ok (.istore 4, 2) := by decide +kernel
theorem dX0_isBetweenNeighbors_32 : decode cX0_isBetweenNeighbors 32 = .ok (.iload_n 2, 1) := by decide +kernel
theorem dX0_isBetweenNeighbors_33 : decode cX0_isBetweenNeighbors 33 = .ok (.iload_n 3, 1) := by decide +kernel
theorem dX0_isBetweenNeighbors_34 : decode cX0_isBetweenNeighbors 34 = .ok (.iload 4, 2) := by decide +kernel
theorem dX0_isBetweenNeighbors_36 : decode cX0_isBetweenNeighbors 36 = .ok (.invokestatic 121, 3) := by decide +kernel
theorem dX0_isBetweenNeighbors_39 : decode cX0_isBetweenNeighbors 39 = .ok (.if_icmp .le 17, 3) := by decide +kernel
theorem dX0_isBetweenNeighbors_42 : decode cX0_isBetweenNeighbors 42 = .ok (.iload_n 2, 1) := by decide +kernel
theorem dX0_isBetweenNeighbors_43 : decode cX0_isBetweenNeighbors 43 = .ok (.iload_n 3, 1) := by decide +kernel
theorem dX0_isBetweenNeighbors_44 : decode cX0_isBetweenNeighbors 44 = .ok (.iload 4, 2) := by decide +kernel
theorem dX0_isBetweenNeighbors_46 : decode cX0_isBetweenNeighbors 46 = .ok (.invokestatic 126, 3) := by decide +kernel
theorem dX0_isBetweenNeighbors_49 : decode cX0_isBetweenNeighbors 49 = .ok (.if_icmp .ge 7, 3) := by decide +kernel
theorem dX0_isBetweenNeighbors_52 : decode cX0_isBetweenNeighbors 52 = .ok (.iconst 1, 1) := by decide +kernel
theorem dX0_isBetweenNeighbors_53 : decode cX0_isBetweenNeighbors 53 = .ok (.goto 4, 3) := by decide +kernel
theorem dX0_isBetweenNeighbors_56 : decode cX0_isBetweenNeighbors 56 = .ok (.iconst 0, 1) := by decide +kernel
theorem dX0_isBetweenNeighbors_57 : decode cX0_isBetweenNeighbors 57 = .ok (.ireturn, 1) := by decide +kernel
theorem dX0_monotone_0 : decode cX0_monotone 0 = .ok (.iload_n 1, 1) := by decide +kernel
theorem dX0_monotone_1 : decode cX0_monotone 1 = .ok (.ifCond .le 7, 3) := by decide +kernel
theorem dX0_monotone_4 : decode cX0_monotone 4 = .ok (.iload_n 2, 1) := by decide +kernel
theorem dX0_monotone_5 : decode cX0_monotone 5 = .ok (.ifCond .gt 11, 3) := by decide +kernel
theorem dX0_monotone_8 : decode cX0_monotone 8 = .ok (.iload_n 1, 1) := by decide +kernel
theorem dX0_monotone_9 : decode cX0_monotone 9 = .ok (.ifCond .ge 11, 3) := by decide +kernel
theorem dX0_monotone_12 : decode cX0_monotone 12 = .ok (.iload_n 2, 1) := by decide +kernel
theorem dX0_monotone_13 : decode cX0_monotone 13 = .ok (.ifCond .ge 7, 3) := by decide +kernel
theorem dX0_monotone_16 : decode cX0_monotone 16 = .ok (.iconst 1, 1) := by decide +kernel
theorem dX0_monotone_17 : decode cX0_monotone 17 = .ok (.goto 4, 3) := by decide +kernel
theorem dX0_monotone_20 : decode cX0_monotone 20 = .ok (.iconst 0, 1) := by decide +kernel
theorem dX0_monotone_21 : decode cX0_monotone 21 = .ok (.istore_n 3, 1) := by decide +kernel
theorem dX0_monotone_22 : decode cX0_monotone 22 = .ok (.iload_n 3, 1) := by decide +kernel
theorem dX0_monotone_23 : decode cX0_monotone 23 = .ok (.ifCond .ne 5, 3) := by decide +kernel
theorem dX0_monotone_26 : decode cX0_monotone 26 = .ok (.iconst 0, 1) := by decide +kernel
theorem dX0_monotone_27 : decode cX0_monotone 27 = .ok (.ireturn, 1) := by decide +kernel
theorem dX0_monotone_28 : decode cX0_monotone 28 = .ok (.iload_n 0, 1) := by decide +kernel
theorem dX0_monotone_29 : decode cX0_monotone 29 = .ok (.i2l, 1) := by decide +kernel
theorem dX0_monotone_30 : decode cX0_monotone 30 = .ok (.iconst 3, 1) := by decide +kernel
theorem dX0_monotone_31 : decode cX0_monotone 31 = .ok (.iload_n 1, 1) := by decide +kernel
theorem dX0_monotone_32 : decode cX0_monotone 32 = .ok (.invokestatic 129, 3) := by decide +kernel
theorem dX0_monotone_35 : decode cX0_monotone 35 = .ok (.iload_n 2, 1) := by decide +kernel
theorem dX0_monotone_36 : decode cX0_monotone 36 = .ok (.invokestatic 129, 3) := by decide +kernel
theorem dX0_monotone_39 : decode cX0_monotone 39 = .ok (.invokestatic 121, 3) := by decide +kernel
theorem dX0_monotone_42 : decode cX0_monotone 42 = .ok (.imul, 1) := by decide +kernel
theorem dX0_monotone_43 : decode cX0_monotone 43 = .ok (.invokestatic 81, 3) := by decide +kernel
theorem dX0_monotone_46 : decode cX0_monotone 46 = .ok (.ireturn, 1) := by decide +kernel
theorem dX0_partsAt_0 : decode cX0_partsAt 0 = .ok (.aload_n 0, 1) := by decide +kernel
theorem dX0_partsAt_1 : decode cX0_partsAt 1 = .ok (.getfield 38, 3) := by decide +kernel
theorem dX0_partsAt_4 : decode cX0_partsAt 4 = .ok (.iconst 1, 1) := by decide +kernel
theorem dX0_partsAt_5 : decode cX0_partsAt 5 = .ok (.if_icmp .ge 5, 3) := by decide +kernel
theorem dX0_partsAt_8 : decode cX0_partsAt 8 = .ok (.iconst 0, 1) := by decide +kernel
theorem dX0_partsAt_9 : decode cX0_partsAt 9 = .ok (.ireturn, 1) := by decide +kernel
theorem dX0_partsAt_10 : decode cX0_partsAt 10 = .ok (.aload_n 0, 1) := by decide +kernel
theorem dX0_partsAt_11 : decode cX0_partsAt 11 = .ok (.getfield 18, 3) := by decide +kernel
theorem dX0_partsAt_14 : decode cX0_partsAt 14 = .ok (.iconst 0, 1) := by decide +kernel
theorem dX0_partsAt_15 : decode cX0_partsAt 15 = .ok (.invokestatic 53, 3) := by decide +kernel
theorem dX0_partsAt_18 : decode cX0_partsAt 18 = .ok (.istore_n 2, 1) := by decide +kernel
theorem dX0_partsAt_19 : decode cX0_partsAt 19 = .ok (.aload_n 0, 1) := by decide +kernel
theorem dX0_partsAt_20 : decode cX0_partsAt 20 = .ok (.getfield 18, 3) := by decide +kernel
theorem dX0_partsAt_23 : decode cX0_partsAt 23 = .ok (.aload_n 0, 1) := by decide +kernel
theorem dX0_partsAt_24 : decode cX0_partsAt 24 = .ok (.getfield 38, 3) := by decide +kernel
theorem dX0_partsAt_27 : decode cX0_partsAt 27 = .ok (.iconst 1, 1) := by decide +kernel
theorem dX0_partsAt_28 : decode cX0_partsAt 28 = .ok (.isub, 1) := by decide +kernel
theorem dX0_partsAt_29 : decode cX0_partsAt 29 = .ok (.invokestatic 53, 3) := by decide +kernel
theorem dX0_partsAt_32 : decode cX0_partsAt 32 = .ok (.istore_n 3, 1) := by decide +kernel
theorem dX0_partsAt_33 : decode cX0_partsAt 33 = .ok (.aload_n 0, 1) := by decide +kernel
theorem dX0_partsAt_34 : decode cX0_partsAt 34 = .ok (.iload_n 1, 1) := by decide +kernel
theorem dX0_partsAt_35 : decode cX0_partsAt 35 = .ok (.iload_n 2, 1) := by decide +kernel
theorem dX0_partsAt_36 : decode cX0_partsAt 36 = .ok (.iload_n 3, 1) := by decide +kernel
theorem dX0_partsAt_37 : decode cX0_partsAt 37 = .ok (.invokevirtual 132, 3) := by decide +kernel
theorem dX0_partsAt_40 : decode cX0_partsAt 40 = .ok (.istore 4, 2) := by decide +kernel
theorem dX0_partsAt_42 : decode cX0_partsAt 42 = .ok (.iload 4, 2) := by decide +kernel
theorem dX0_partsAt_44 : decode cX0_partsAt 44 = .ok (.iload_n 1, 1) := by decide +kernel
theorem dX0_partsAt_45 : decode cX0_partsAt 45 = .ok (.iload_n 2, 1) := by decide +kernel
theorem dX0_partsAt_46 : decode cX0_partsAt 46 = .ok (.iload_n 3, 1) := by decide +kernel
theorem dX0_partsAt_47 : decode cX0_partsAt 47 = .ok (.invokestatic 135, 3) := by decide +kernel
theorem dX0_partsAt_50 : decode cX0_partsAt 50 = .ok (.istore 5, 2) := by decide +kernel
theorem dX0_partsAt_52 : decode cX0_partsAt 52 = .ok (.aload_n 0, 1) := by decide +kernel
theorem dX0_partsAt_53 : decode cX0_partsAt 53 = .ok (.iload 5, 2) := by decide +kernel
theorem dX0_partsAt_55 : decode cX0_partsAt 55 = .ok (.iconst 1, 1) := by decide +kernel
theorem dX0_partsAt_56 : decode cX0_partsAt 56 = .ok (.iadd, 1) := by decide +kernel
theorem dX0_partsAt_57 : decode cX0_partsAt 57 = .ok (.invokevirtual 45, 3) := by decide +kernel
theorem dX0_partsAt_60 : decode cX0_partsAt 60 = .ok (.iconst 1, 1) := by decide +kernel
theorem dX0_partsAt_61 : decode cX0_partsAt 61 = .ok (.isub, 1) := by decide +kernel
theorem dX0_partsAt_62 : decode cX0_partsAt 62 = .ok (.istore 6, 2) := by decide +kernel
theorem dX0_partsAt_64 : decode cX0_partsAt 64 = .ok (.aload_n 0, 1) := by decide +kernel
theorem dX0_partsAt_65 : decode cX0_partsAt 65 = .ok (.getfield 18, 3) := by decide +kernel
theorem dX0_partsAt_68 : decode cX0_partsAt 68 = .ok (.iload 6, 2) := by decide +kernel
theorem dX0_partsAt_70 : decode cX0_partsAt 70 = .ok (.invokestatic 53, 3) := by decide +kernel
theorem dX0_partsAt_73 : decode cX0_partsAt 73 = .ok (.iload 5, 2) := by decide +kernel
theorem dX0_partsAt_75 : decode cX0_partsAt 75 = .ok (.if_icmp .ne 19, 3) := by decide +kernel
theorem dX0_partsAt_78 : decode cX0_partsAt 78 = .ok (.bipush 64, 2) := by decide +kernel
theorem dX0_partsAt_80 : decode cX0_partsAt 80 = .ok (.aload_n 0, 1) := by decide +kernel
theorem dX0_partsAt_81 : decode cX0_partsAt 81 = .ok (.getfield 22, 3) := by decide +kernel
theorem dX0_partsAt_84 : decode cX0_partsAt 84 = .ok (.iload 6, 2) := by decide +kernel
theorem dX0_partsAt_86 : decode cX0_partsAt 86 = .ok (.invokestatic 53, 3) := by decide +kernel
theorem dX0_partsAt_89 : decode cX0_partsAt 89 = .ok (.imul, 1) := by decide +kernel
theorem dX0_partsAt_90 : decode cX0_partsAt 90 = .ok (.i2l, 1) := by decide +kernel
theorem dX0_partsAt_91 : decode cX0_partsAt 91 = .ok (.goto 12, 3) := by decide +kernel
theorem dX0_partsAt_94 : decode cX0_partsAt 94 = .ok (.aload_n 0, 1) := by decide +kernel
theorem dX0_partsAt_95 : decode cX0_partsAt 95 = .ok (.iload 6, 2) := by decide +kernel
theorem dX0_partsAt_97 : decode cX0_partsAt 97 = .ok (.iload 5, 2) := by decide +kernel
theorem dX0_partsAt_99 : decode cX0_partsAt 99 = .ok (.invokevirtual 139, 3) := by decide +kernel
theorem dX0_partsAt_102 : decode cX0_partsAt 102 = .ok (.i2l, 1) := by decide +kernel
theorem dX0_partsAt_103 : decode cX0_partsAt 103 = .ok (.lstore 7, 2) := by decide +kernel
theorem dX0_partsAt_105 : decode cX0_partsAt 105 = .ok (.iload 4, 2) := by decide +kernel
theorem dX0_partsAt_107 : decode cX0_partsAt 107 = .ok (.iconst 1, 1) := by decide +kernel
theorem dX0_partsAt_108 : decode cX0_partsAt 108 = .ok (.if_icmp .ne 31, 3) := by decide +kernel
theorem dX0_partsAt_111 : decode cX0_partsAt 111 = .ok (.lload 7, 2) := by decide +kernel
theorem dX0_partsAt_113 : decode cX0_partsAt 113 = .ok (.aload_n 0, 1) := by decide +kernel
theorem dX0_partsAt_114 : decode cX0_partsAt 114 = .ok (.iload 6, 2) := by decide +kernel
theorem dX0_partsAt_116 : decode cX0_partsAt 116 = .ok (.iload_n 1, 1) := by decide +kernel
theorem dX0_partsAt_117 : decode cX0_partsAt 117 = .ok (.iload_n 3, 1) := by decide +kernel
theorem dX0_partsAt_118 : decode cX0_partsAt 118 = .ok (.if_icmp .le 7, 3) := by decide +kernel
theorem dX0_partsAt_121 : decode cX0_partsAt 121 = .ok (.iconst 1, 1) := by decide +kernel
theorem dX0_partsAt_122 : decode cX0_partsAt 122 = .ok (.goto 4, 3) := by decide +kernel
theorem dX0_partsAt_125 : decode cX0_partsAt 125 = .ok (.iconst 0, 1) := by decide +kernel
theorem dX0_partsAt_126 : decode cX0_partsAt 126 = .ok (.invokevirtual 77, 3) := by decide +kernel
theorem dX0_partsAt_129 : decode cX0_partsAt 129 = .ok (.i2l, 1) := by decide +kernel
theorem dX0_partsAt_130 : decode cX0_partsAt 130 = .ok (.iload_n 1, 1) := by decide +kernel
theorem dX0_partsAt_131 : decode cX0_partsAt 131 = .ok (.iload 5, 2) := by decide +kernel
theorem dX0_partsAt_133 : decode cX0_partsAt 133 = .ok (.isub, 1) := by decide +kernel
theorem dX0_partsAt_134 : decode cX0_partsAt 134 = .ok (.i2l, 1) := by decide +kernel
theorem dX0_partsAt_135 : decode cX0_partsAt 135 = .ok (.lmul, 1) := by decide +kernel
theorem dX0_partsAt_136 : decode cX0_partsAt 136 = .ok (.ladd, 1) := by decide +kernel
theorem dX0_partsAt_137 : decode cX0_partsAt 137 = .ok (.lstore 7, 2) := by decide +kernel
theorem dX0_partsAt_139 : decode cX0_partsAt 139 = .ok (.iload 4, 2) := by decide +kernel
theorem dX0_partsAt_141 : decode cX0_partsAt 141 = .ok (.iconst 4, 1) := by decide +kernel
theorem dX0_partsAt_142 : decode cX0_partsAt 142 = .ok (.if_icmp .ne 55, 3) := by decide +kernel
theorem dX0_partsAt_145 : decode cX0_partsAt 145 = .ok (.iload_n 3, 1) := by decide +kernel
theorem dX0_partsAt_146 : decode cX0_partsAt 146 = .ok (.iload_n 2, 1) := by decide +kernel
theorem dX0_partsAt_147 : decode cX0_partsAt 147 = .ok (.if_icmp .le 50, 3) := by decide +kernel
theorem dX0_partsAt_150 : decode cX0_partsAt 150 = .ok (.aload_n 0, 1) := by decide +kernel
theorem dX0_partsAt_151 : decode cX0_partsAt 151 = .ok (.getfield 22, 3) := by decide +kernel
theorem dX0_partsAt_154 : decode cX0_partsAt 154 = .ok (.aload_n 0, 1) := by decide +kernel
theorem dX0_partsAt_155 : decode cX0_partsAt 155 = .ok (.getfield 38, 3) := by decide +kernel
theorem dX0_partsAt_158 : decode cX0_partsAt 158 = .ok (.iconst 1, 1) := by decide +kernel
theorem dX0_partsAt_159 : decode cX0_partsAt 159 = .ok (.isub, 1) := by decide +kernel
theorem dX0_partsAt_160 : decode cX0_partsAt 160 = .ok (.invokestatic 53, 3) := by decide +kernel
theorem dX0_partsAt_163 : decode cX0_partsAt 163 = .ok (.i2l, 1) := by decide +kernel
theorem dX0_partsAt_164 : decode cX0_partsAt 164 = .ok (.aload_n 0, 1) := by decide +kernel
theorem dX0_partsAt_165 : decode cX0_partsAt 165 = .ok (.getfield 22, 3) := by decide +kernel
theorem dX0_partsAt_168 : decode cX0_partsAt 168 = .ok (.iconst 0, 1) := by decide +kernel
theorem dX0_partsAt_169 : decode cX0_partsAt 169 = .ok (.invokestatic 53, 3) := by decide +kernel
theorem dX0_partsAt_172 : decode cX0_partsAt 172 = .ok (.i2l, 1) := by decide +kernel
theorem dX0_partsAt_173 : decode cX0_partsAt 173 = .ok (.lsub, 1) := by decide +kernel
theorem dX0_partsAt_174 : decode cX0_partsAt 174 = .ok (.lstore 9, 2) := by decide +kernel
theorem dX0_partsAt_176 : decode cX0_partsAt 176 = .ok (.lload 7, 2) := by decide +kernel
theorem dX0_partsAt_178 : decode cX0_partsAt 178 = .ok (.iload_n 1, 1) := by decide +kernel
theorem dX0_partsAt_179 : decode cX0_partsAt 179 = .ok (.iload_n 2, 1) := by decide +kernel
theorem dX0_partsAt_180 : decode cX0_partsAt 180 = .ok (.isub, 1) := by decide +kernel
theorem dX0_partsAt_181 : decode cX0_partsAt 181 = .ok (.iload_n 3, 1) := by decide +kernel
theorem dX0_partsAt_182 : decode cX0_partsAt 182 = .ok (.iload_n 2, 1) := by decide +kernel
theorem dX0_partsAt_183 : decode cX0_partsAt 183 = .ok (.isub, 1) := by decide +kernel
theorem dX0_partsAt_184 : decode cX0_partsAt 184 = .ok (.invokestatic 142, 3) := by decide +kernel
theorem dX0_partsAt_187 : decode cX0_partsAt 187 = .ok (.bipush 64, 2) := by decide +kernel
theorem dX0_partsAt_189 : decode cX0_partsAt 189 = .ok (.imul, 1) := by decide +kernel
theorem dX0_partsAt_190 : decode cX0_partsAt 190 = .ok (.i2l, 1) := by decide +kernel
theorem dX0_partsAt_191 : decode cX0_partsAt 191 = .ok (.lload 9, 2) := by decide +kernel
theorem dX0_partsAt_193 : decode cX0_partsAt 193 = .ok (.lmul, 1) := by decide +kernel
theorem dX0_partsAt_194 : decode cX0_partsAt 194 = .ok (.ladd, 1) := by decide +kernel
theorem dX0_partsAt_195 : decode cX0_partsAt 195 = .ok (.lstore 7, 2) := by decide +kernel
theorem dX0_partsAt_197 : decode cX0_partsAt 197 = .ok (.lload 7, 2) := by decide +kernel
theorem dX0_partsAt_199 : decode cX0_partsAt 199 = .ok (.l2i, 1) := by decide +kernel
theorem dX0_partsAt_200 : decode cX0_partsAt 200 = .ok (.ireturn, 1) := by decide +kernel
theorem dX0_extrapolation_0 : decode cX0_extrapolation 0 = .ok (.iload_n 2, 1) := by decide +kernel
theorem dX0_extrapolation_1 : decode cX0_extrapolation 1 = .ok (.iload_n 3, 1) := by decide +kernel
theorem dX0_extrapolation_2 : decode cX0_extrapolation 2 = .ok (.if_icmp .eq 13, 3) := by decide +kernel
theorem dX0_extrapolation_5 : decode cX0_extrapolation 5 = .ok (.iload_n 1, 1) := by decide +kernel
theorem dX0_extrapolation_6 : decode cX0_extrapolation 6 = .ok (.iload_n 2, 1) := by decide +kernel
theorem dX0_extrapolation_7 : decode cX0_extrapolation 7 = .ok (.if_icmp .lt 10, 3) := by decide +kernel
theorem dX0_extrapolation_10 : decode cX0_extrapolation 10 = .ok (.iload_n 1, 1) := by decide +kernel
theorem dX0_extrapolation_11 : decode cX0_extrapolation 11 = .ok (.iload_n 3, 1) := by decide +kernel
theorem dX0_extrapolation_12 : decode cX0_extrapolation 12 = .ok (.if_icmp .gt 5, 3) := by decide +kernel
theorem dX0_extrapolation_15 : decode cX0_extrapolation 15 = .ok (.iconst 0, 1) := by decide +kernel
theorem dX0_extrapolation_16 : decode cX0_extrapolation 16 = .ok (.ireturn, 1) := by decide +kernel
theorem dX0_extrapolation_17 : decode cX0_extrapolation 17 = .ok (.iload_n 1, 1) := by decide +kernel
theorem dX0_extrapolation_18 : decode cX0_extrapolation 18 = .ok (.iload_n 2, 1) := by decide +kernel
theorem dX0_extrapolation_19 : decode cX0_extrapolation 19 = .ok (.if_icmp .ge 10, 3) := by decide +kernel
theorem dX0_extrapolation_22 : decode cX0_extrapolation 22 = .ok (.aload_n 0, 1) := by decide +kernel
theorem dX0_extrapolation_23 : decode cX0_extrapolation 23 = .ok (.getfield 9, 3) := by decide +kernel
theorem dX0_extrapolation_26 : decode cX0_extrapolation 26 = .ok (.goto 7, 3) := by decide +kernel
theorem dX0_extrapolation_29 : decode cX0_extrapolation 29 = .ok (.aload_n 0, 1) := by decide +kernel
theorem dX0_extrapolation_30 : decode cX0_extrapolation 30 = .ok (.getfield 15, 3) := by decide +kernel
theorem dX0_extrapolation_33 : decode cX0_extrapolation 33 = .ok (.ireturn, 1) := by decide +kernel
theorem dX0_folded_0 : decode cX0_folded 0 = .ok (.iload_n 3, 1) := by decide +kernel
theorem dX0_folded_1 : decode cX0_folded 1 = .ok (.iload_n 2, 1) := by decide +kernel
theorem dX0_folded_2 : decode cX0_folded 2 = .ok (.isub, 1) := by decide +kernel
theorem dX0_folded_3 : decode cX0_folded 3 = .ok (.istore 4, 2) := by decide +kernel
theorem dX0_folded_5 : decode cX0_folded 5 = .ok (.iload_n 0, 1) := by decide +kernel
theorem dX0_folded_6 : decode cX0_folded 6 = .ok (.ifCond .eq 14, 3) := by decide +kernel
theorem dX0_folded_9 : decode cX0_folded 9 = .ok (.iload_n 0, 1) := by decide +kernel
theorem dX0_folded_10 : decode cX0_folded 10 = .ok (.iconst 1, 1) := by decide +kernel
theorem dX0_folded_11 : decode cX0_folded 11 = .ok (.if_icmp .eq 9, 3) := by decide +kernel
theorem dX0_folded_14 : decode cX0_folded 14 = .ok (.iload 4, 2) := by decide +kernel
theorem dX0_folded_16 : decode cX0_folded 16 = .ok (.iconst 1, 1) := by decide +kernel
theorem dX0_folded_17 : decode cX0_folded 17 = .ok (.if_icmp .ge 13, 3) := by decide +kernel
theorem dX0_folded_20 : decode cX0_folded 20 = .ok (.iload_n 2, 1) := by decide +kernel
theorem dX0_folded_21 : decode cX0_folded 21 = .ok (.iload_n 3, 1) := by decide +kernel
theorem dX0_folded_22 : decode cX0_folded 22 = .ok (.iload_n 1, 1) := by decide +kernel
theorem dX0_folded_23 : decode cX0_folded 23 = .ok (.invokestatic 121, 3) := by decide +kernel
theorem dX0_folded_26 : decode cX0_folded 26 = .ok (.invokestatic 126, 3) := by decide +kernel
theorem dX0_folded_29 : decode cX0_folded 29 = .ok (.ireturn, 1) := by decide +kernel
theorem dX0_folded_30 : decode cX0_folded 30 = .ok (.iload_n 0, 1) := by decide +kernel
theorem dX0_folded_31 : decode cX0_folded 31 = .ok (.iconst 3, 1) := by decide +kernel
theorem dX0_folded_32 : decode cX0_folded 32 = .ok (.if_icmp .eq 14, 3) := by decide +kernel
theorem dX0_folded_35 : decode cX0_folded 35 = .ok (.iload_n 2, 1) := by decide +kernel
theorem dX0_folded_36 : decode cX0_folded 36 = .ok (.iload_n 1, 1) := by decide +kernel
theorem dX0_folded_37 : decode cX0_folded 37 = .ok (.iload_n 2, 1) := by decide +kernel
theorem dX0_folded_38 : decode cX0_folded 38 = .ok (.isub, 1) := by decide +kernel
theorem dX0_folded_39 : decode cX0_folded 39 = .ok (.iload 4, 2) := by decide +kernel
theorem dX0_folded_41 : decode cX0_folded 41 = .ok (.invokestatic 145, 3) := by decide +kernel
theorem dX0_folded_44 : decode cX0_folded 44 = .ok (.iadd, 1) := by decide +kernel
theorem dX0_folded_45 : decode cX0_folded 45 = .ok (.ireturn, 1) := by decide +kernel
theorem dX0_folded_46 : decode cX0_folded 46 = .ok (.iload_n 1, 1) := by decide +kernel
theorem dX0_folded_47 : decode cX0_folded 47 = .ok (.iload_n 2, 1) := by decide +kernel
theorem dX0_folded_48 : decode cX0_folded 48 = .ok (.isub, 1) := by decide +kernel
theorem dX0_folded_49 : decode cX0_folded 49 = .ok (.iconst 2, 1) := by decide +kernel
theorem dX0_folded_50 : decode cX0_folded 50 = .ok (.iload 4, 2) := by decide +kernel
theorem dX0_folded_52 : decode cX0_folded 52 = .ok (.imul, 1) := by decide +kernel
theorem dX0_folded_53 : decode cX0_folded 53 = .ok (.invokestatic 145, 3) := by decide +kernel
theorem dX0_folded_56 : decode cX0_folded 56 = .ok (.istore 5, 2) := by decide +kernel
theorem dX0_folded_58 : decode cX0_folded 58 = .ok (.iload 5, 2) := by decide +kernel
theorem dX0_folded_60 : decode cX0_folded 60 = .ok (.iload 4, 2) := by decide +kernel
theorem dX0_folded_62 : decode cX0_folded 62 = .ok (.if_icmp .gt 10, 3) := by decide +kernel
theorem dX0_folded_65 : decode cX0_folded 65 = .ok (.iload_n 2, 1) := by decide +kernel
theorem dX0_folded_66 : decode cX0_folded 66 = .ok (.iload 5, 2) := by decide +kernel
theorem dX0_folded_68 : decode cX0_folded 68 = .ok (.iadd, 1) := by decide +kernel
theorem dX0_folded_69 : decode cX0_folded 69 = .ok (.goto 12, 3) := by decide +kernel
theorem dX0_folded_72 : decode cX0_folded 72 = .ok (.iload_n 2, 1) := by decide +kernel
theorem dX0_folded_73 : decode cX0_folded 73 = .ok (.iconst 2, 1) := by decide +kernel
theorem dX0_folded_74 : decode cX0_folded 74 = .ok (.iload 4, 2) := by decide +kernel
theorem dX0_folded_76 : decode cX0_folded 76 = .ok (.imul, 1) := by decide +kernel
theorem dX0_folded_77 : decode cX0_folded 77 = .ok (.iadd, 1) := by decide +kernel
theorem dX0_folded_78 : decode cX0_folded 78 = .ok (.iload 5, 2) := by decide +kernel
theorem dX0_folded_80 : decode cX0_folded 80 = .ok (.isub, 1) := by decide +kernel
theorem dX0_folded_81 : decode cX0_folded 81 = .ok (.ireturn, 1) := by decide +kernel
theorem dX0_between_0 : decode cX0_between 0 = .ok (.bipush 64, 2) := by decide +kernel
theorem dX0_between_2 : decode cX0_between 2 = .ok (.aload_n 0, 1) := by decide +kernel
theorem dX0_between_3 : decode cX0_between 3 = .ok (.getfield 22, 3) := by decide +kernel
theorem dX0_between_6 : decode cX0_between 6 = .ok (.iload_n 1, 1) := by decide +kernel
theorem dX0_between_7 : decode cX0_between 7 = .ok (.invokestatic 53, 3) := by decide +kernel
theorem dX0_between_10 : decode cX0_between 10 = .ok (.imul, 1) := by decide +kernel
theorem dX0_between_11 : decode cX0_between 11 = .ok (.istore_n 3, 1) := by decide +kernel
theorem dX0_between_12 : decode cX0_between 12 = .ok (.aload_n 0, 1) := by decide +kernel
theorem dX0_between_13 : decode cX0_between 13 = .ok (.getfield 25, 3) := by decide +kernel
theorem dX0_between_16 : decode cX0_between 16 = .ok (.iload_n 1, 1) := by decide +kernel
theorem dX0_between_17 : decode cX0_between 17 = .ok (.invokestatic 53, 3) := by decide +kernel
theorem dX0_between_20 : decode cX0_between 20 = .ok (.bipush 6, 2) := by decide +kernel
theorem dX0_between_22 : decode cX0_between 22 = .ok (.if_icmp .ne 5, 3) := by decide +kernel
theorem dX0_between_25 : decode cX0_between 25 = .ok (.iload_n 3, 1) := by decide +kernel
theorem dX0_between_26 : decode cX0_between 26 = .ok (.ireturn, 1) := by decide +kernel
theorem dX0_between_27 : decode cX0_between 27 = .ok (.bipush 64, 2) := by decide +kernel
theorem dX0_between_29 : decode cX0_between 29 = .ok (.aload_n 0, 1) := by decide +kernel
theorem dX0_between_30 : decode cX0_between 30 = .ok (.getfield 22, 3) := by decide +kernel
theorem dX0_between_33 : decode cX0_between 33 = .ok (.iload_n 1, 1) := by decide +kernel
theorem dX0_between_34 : decode cX0_between 34 = .ok (.iconst 1, 1) := by decide +kernel
theorem dX0_between_35 : decode cX0_between 35 = .ok (.iadd, 1) := by decide +kernel
theorem dX0_between_36 : decode cX0_between 36 = .ok (.invokestatic 53, 3) := by decide +kernel
theorem dX0_between_39 : decode cX0_between 39 = .ok (.imul, 1) := by decide +kernel
theorem dX0_between_40 : decode cX0_between 40 = .ok (.istore 4, 2) := by decide +kernel
theorem dX0_between_42 : decode cX0_between 42 = .ok (.aload_n 0, 1) := by decide +kernel
theorem dX0_between_43 : decode cX0_between 43 = .ok (.getfield 18, 3) := by decide +kernel
theorem dX0_between_46 : decode cX0_between 46 = .ok (.iload_n 1, 1) := by decide +kernel
theorem dX0_between_47 : decode cX0_between 47 = .ok (.invokestatic 53, 3) := by decide +kernel
theorem dX0_between_50 : decode cX0_between 50 = .ok (.istore 5, 2) := by decide +kernel
theorem dX0_between_52 : decode cX0_between 52 = .ok (.aload_n 0, 1) := by decide +kernel
theorem dX0_between_53 : decode cX0_between 53 = .ok (.getfield 18, 3) := by decide +kernel
theorem dX0_between_56 : decode cX0_between 56 = .ok (.iload_n 1, 1) := by decide +kernel
theorem dX0_between_57 : decode cX0_between 57 = .ok (.iconst 1, 1) := by decide +kernel
theorem dX0_between_58 : decode cX0_between 58 = .ok (.iadd, 1) := by decide +kernel
theorem dX0_between_59 : decode cX0_between 59 = .ok (.invokestatic 53, 3) := by decide +kernel
theorem dX0_between_62 : decode cX0_between 62 = .ok (.iload 5, 2) := by decide +kernel
theorem dX0_between_64 : decode cX0_between 64 = .ok (.isub, 1) := by decide +kernel
theorem dX0_between_65 : decode cX0_between 65 = .ok (.istore 6, 2) := by decide +kernel
theorem dX0_between_67 : decode cX0_between 67 = .ok (.iload_n 3, 1) := by decide +kernel
theorem dX0_between_68 : decode cX0_between 68 = .ok (.i2l, 1) := by decide +kernel
theorem dX0_between_69 : decode cX0_between 69 = .ok (.iload 4, 2) := by decide +kernel
theorem dX0_between_71 : decode cX0_between 71 = .ok (.i2l, 1) := by decide +kernel
theorem dX0_between_72 : decode cX0_between 72 = .ok (.aload_n 0, 1) := by decide +kernel
theorem dX0_between_73 : decode cX0_between 73 = .ok (.iload_n 1, 1) := by decide +kernel
theorem dX0_between_74 : decode cX0_between 74 = .ok (.iconst 1, 1) := by decide +kernel
theorem dX0_between_75 : decode cX0_between 75 = .ok (.invokevirtual 77, 3) := by decide +kernel
theorem dX0_between_78 : decode cX0_between 78 = .ok (.i2l, 1) := by decide +kernel
theorem dX0_between_79 : decode cX0_between 79 = .ok (.aload_n 0, 1) := by decide +kernel
theorem dX0_between_80 : decode cX0_between 80 = .ok (.iload_n 1, 1) := by decide +kernel
theorem dX0_between_81 : decode cX0_between 81 = .ok (.iconst 1, 1) := by decide +kernel
theorem dX0_between_82 : decode cX0_between 82 = .ok (.iadd, 1) := by decide +kernel
theorem dX0_between_83 : decode cX0_between 83 = .ok (.iconst 0, 1) := by decide +kernel
theorem dX0_between_84 : decode cX0_between 84 = .ok (.invokevirtual 77, 3) := by decide +kernel
theorem dX0_between_87 : decode cX0_between 87 = .ok (.i2l, 1) := by decide +kernel
theorem dX0_between_88 : decode cX0_between 88 = .ok (.iload 6, 2) := by decide +kernel
theorem dX0_between_90 : decode cX0_between 90 = .ok (.i2l, 1) := by decide +kernel
theorem dX0_between_91 : decode cX0_between 91 = .ok (.iload_n 2, 1) := by decide +kernel
theorem dX0_between_92 : decode cX0_between 92 = .ok (.iload 5, 2) := by decide +kernel
theorem dX0_between_94 : decode cX0_between 94 = .ok (.isub, 1) := by decide +kernel
theorem dX0_between_95 : decode cX0_between 95 = .ok (.i2l, 1) := by decide +kernel
theorem dX0_between_96 : decode cX0_between 96 = .ok (.invokestatic 148, 3) := by decide +kernel
theorem dX0_between_99 : decode cX0_between 99 = .ok (.ireturn, 1) := by decide +kernel
theorem dX0_hermite_0 : decode cX0_hermite 0 = .ok (.lload 10, 2) := by decide +kernel
theorem dX0_hermite_2 : decode cX0_hermite 2 = .ok (.lload 10, 2) := by decide +kernel
theorem dX0_hermite_4 : decode cX0_hermite 4 = .ok (.lmul, 1) := by decide +kernel
theorem dX0_hermite_5 : decode cX0_hermite 5 = .ok (.lstore 12, 2) := by decide +kernel
theorem dX0_hermite_7 : decode cX0_hermite 7 = .ok (.lload 12, 2) := by decide +kernel
theorem dX0_hermite_9 : decode cX0_hermite 9 = .ok (.lload 10, 2) := by decide +kernel
theorem dX0_hermite_11 : decode cX0_hermite 11 = .ok (.lmul, 1) := by decide +kernel
theorem dX0_hermite_12 : decode cX0_hermite 12 = .ok (.lstore 14, 2) := by decide +kernel
theorem dX0_hermite_14 : decode cX0_hermite 14 = .ok (.ldc2_w 152, 3) := by decide +kernel
theorem dX0_hermite_17 : decode cX0_hermite 17 = .ok (.lload 12, 2) := by decide +kernel
theorem dX0_hermite_19 : decode cX0_hermite 19 = .ok (.lmul, 1) := by decide +kernel
theorem dX0_hermite_20 : decode cX0_hermite 20 = .ok (.lload 8, 2) := by decide +kernel
theorem dX0_hermite_22 : decode cX0_hermite 22 = .ok (.lmul, 1) := by decide +kernel
theorem dX0_hermite_23 : decode cX0_hermite 23 = .ok (.ldc2_w 91, 3) := by decide +kernel
theorem dX0_hermite_26 : decode cX0_hermite 26 = .ok (.lload 14, 2) := by decide +kernel
theorem dX0_hermite_28 : decode cX0_hermite 28 = .ok (.lmul, 1) := by decide +kernel
theorem dX0_hermite_29 : decode cX0_hermite 29 = .ok (.lsub, 1) := by decide +kernel
theorem dX0_hermite_30 : decode cX0_hermite 30 = .ok (.lstore 16, 2) := by decide +kernel
theorem dX0_hermite_32 : decode cX0_hermite 32 = .ok (.lload 8, 2) := by decide +kernel
theorem dX0_hermite_34 : decode cX0_hermite 34 = .ok (.lload 8, 2) := by decide +kernel
theorem dX0_hermite_36 : decode cX0_hermite 36 = .ok (.lmul, 1) := by decide +kernel
theorem dX0_hermite_37 : decode cX0_hermite 37 = .ok (.lload 8, 2) := by decide +kernel
theorem dX0_hermite_39 : decode cX0_hermite 39 = .ok (.lmul, 1) := by decide +kernel
theorem dX0_hermite_40 : decode cX0_hermite 40 = .ok (.lstore 18, 2) := by decide +kernel
theorem dX0_hermite_42 : decode cX0_hermite 42 = .ok (.lload_n 0, 1) := by decide +kernel
theorem dX0_hermite_43 : decode cX0_hermite 43 = .ok (.lload 18, 2) := by decide +kernel
theorem dX0_hermite_45 : decode cX0_hermite 45 = .ok (.lload 16, 2) := by decide +kernel
theorem dX0_hermite_47 : decode cX0_hermite 47 = .ok (.lsub, 1) := by decide +kernel
theorem dX0_hermite_48 : decode cX0_hermite 48 = .ok (.lmul, 1) := by decide +kernel
theorem dX0_hermite_49 : decode cX0_hermite 49 = .ok (.lload_n 2, 1) := by decide +kernel
theorem dX0_hermite_50 : decode cX0_hermite 50 = .ok (.lload 16, 2) := by decide +kernel
theorem dX0_hermite_52 : decode cX0_hermite 52 = .ok (.lmul, 1) := by decide +kernel
theorem dX0_hermite_53 : decode cX0_hermite 53 = .ok (.ladd, 1) := by decide +kernel
theorem dX0_hermite_54 : decode cX0_hermite 54 = .ok (.lload 8, 2) := by decide +kernel
theorem dX0_hermite_56 : decode cX0_hermite 56 = .ok (.lload 4, 2) := by decide +kernel
theorem dX0_hermite_58 : decode cX0_hermite 58 = .ok (.lmul, 1) := by decide +kernel
theorem dX0_hermite_59 : decode cX0_hermite 59 = .ok (.lload 14, 2) := by decide +kernel
theorem dX0_hermite_61 : decode cX0_hermite 61 = .ok (.ldc2_w 91, 3) := by decide +kernel
theorem dX0_hermite_64 : decode cX0_hermite 64 = .ok (.lload 12, 2) := by decide +kernel
theorem dX0_hermite_66 : decode cX0_hermite 66 = .ok (.lmul, 1) := by decide +kernel
theorem dX0_hermite_67 : decode cX0_hermite 67 = .ok (.lload 8, 2) := by decide +kernel
theorem dX0_hermite_69 : decode cX0_hermite 69 = .ok (.lmul, 1) := by decide +kernel
theorem dX0_hermite_70 : decode cX0_hermite 70 = .ok (.lsub, 1) := by decide +kernel
theorem dX0_hermite_71 : decode cX0_hermite 71 = .ok (.lload 10, 2) := by decide +kernel
theorem dX0_hermite_73 : decode cX0_hermite 73 = .ok (.lload 8, 2) := by decide +kernel
theorem dX0_hermite_75 : decode cX0_hermite 75 = .ok (.lmul, 1) := by decide +kernel
theorem dX0_hermite_76 : decode cX0_hermite 76 = .ok (.lload 8, 2) := by decide +kernel
theorem dX0_hermite_78 : decode cX0_hermite 78 = .ok (.lmul, 1) := by decide +kernel
theorem dX0_hermite_79 : decode cX0_hermite 79 = .ok (.ladd, 1) := by decide +kernel
theorem dX0_hermite_80 : decode cX0_hermite 80 = .ok (.lmul, 1) := by decide +kernel
theorem dX0_hermite_81 : decode cX0_hermite 81 = .ok (.ladd, 1) := by decide +kernel
theorem dX0_hermite_82 : decode cX0_hermite 82 = .ok (.lload 8, 2) := by decide +kernel
theorem dX0_hermite_84 : decode cX0_hermite 84 = .ok (.lload 6, 2) := by decide +kernel
theorem dX0_hermite_86 : decode cX0_hermite 86 = .ok (.lmul, 1) := by decide +kernel
theorem dX0_hermite_87 : decode cX0_hermite 87 = .ok (.lload 14, 2) := by decide +kernel
theorem dX0_hermite_89 : decode cX0_hermite 89 = .ok (.lload 12, 2) := by decide +kernel
theorem dX0_hermite_91 : decode cX0_hermite 91 = .ok (.lload 8, 2) := by decide +kernel
theorem dX0_hermite_93 : decode cX0_hermite 93 = .ok (.lmul, 1) := by decide +kernel
theorem dX0_hermite_94 : decode cX0_hermite 94 = .ok (.lsub, 1) := by decide +kernel
theorem dX0_hermite_95 : decode cX0_hermite 95 = .ok (.lmul, 1) := by decide +kernel
theorem dX0_hermite_96 : decode cX0_hermite 96 = .ok (.ladd, 1) := by decide +kernel
theorem dX0_hermite_97 : decode cX0_hermite 97 = .ok (.lstore 20, 2) := by decide +kernel
theorem dX0_hermite_99 : decode cX0_hermite 99 = .ok (.lload 20, 2) := by decide +kernel
theorem dX0_hermite_101 : decode cX0_hermite 101 = .ok (.lload 18, 2) := by decide +kernel
theorem dX0_hermite_103 : decode cX0_hermite 103 = .ok (.invokestatic 93, 3) := by decide +kernel
theorem dX0_hermite_106 : decode cX0_hermite 106 = .ok (.l2i, 1) := by decide +kernel
theorem dX0_hermite_107 : decode cX0_hermite 107 = .ok (.ireturn, 1) := by decide +kernel
theorem dX0_distance_0 : decode cX0_distance 0 = .ok (.iconst 0, 1) := by decide +kernel
theorem dX0_distance_1 : decode cX0_distance 1 = .ok (.istore_n 3, 1) := by decide +kernel
theorem dX0_distance_2 : decode cX0_distance 2 = .ok (.iconst 0, 1) := by decide +kernel
theorem dX0_distance_3 : decode cX0_distance 3 = .ok (.istore 4, 2) := by decide +kernel
theorem dX0_distance_5 : decode cX0_distance 5 = .ok (.iload 4, 2) := by decide +kernel
theorem dX0_distance_7 : decode cX0_distance 7 = .ok (.iconst 1, 1) := by decide +kernel
theorem dX0_distance_8 : decode cX0_distance 8 = .ok (.iadd, 1) := by decide +kernel
theorem dX0_distance_9 : decode cX0_distance 9 = .ok (.aload_n 0, 1) := by decide +kernel
theorem dX0_distance_10 : decode cX0_distance 10 = .ok (.getfield 38, 3) := by decide +kernel
theorem dX0_distance_13 : decode cX0_distance 13 = .ok (.if_icmp .ge 186, 3) := by decide +kernel
theorem dX0_distance_16 : decode cX0_distance 16 = .ok (.iload_n 3, 1) := by decide +kernel
theorem dX0_distance_17 : decode cX0_distance 17 = .ok (.iload_n 2, 1) := by decide +kernel
theorem dX0_distance_18 : decode cX0_distance 18 = .ok (.if_icmp .ge 181, 3) := by decide +kernel
theorem dX0_distance_21 : decode cX0_distance 21 = .ok (.bipush 64, 2) := by decide +kernel
theorem dX0_distance_23 : decode cX0_distance 23 = .ok (.aload_n 0, 1) := by decide +kernel
theorem dX0_distance_24 : decode cX0_distance 24 = .ok (.getfield 22, 3) := by decide +kernel
theorem dX0_distance_27 : decode cX0_distance 27 = .ok (.iload 4, 2) := by decide +kernel
theorem dX0_distance_29 : decode cX0_distance 29 = .ok (.invokestatic 53, 3) := by decide +kernel
theorem dX0_distance_32 : decode cX0_distance 32 = .ok (.imul, 1) := by decide +kernel
theorem dX0_distance_33 : decode cX0_distance 33 = .ok (.istore 5, 2) := by decide +kernel
theorem dX0_distance_35 : decode cX0_distance 35 = .ok (.bipush 64, 2) := by decide +kernel
theorem dX0_distance_37 : decode cX0_distance 37 = .ok (.aload_n 0, 1) := by decide +kernel
theorem dX0_distance_38 : decode cX0_distance 38 = .ok (.getfield 22, 3) := by decide +kernel
theorem dX0_distance_41 : decode cX0_distance 41 = .ok (.iload 4, 2) := by decide +kernel
theorem dX0_distance_43 : decode cX0_distance 43 = .ok (.iconst 1, 1) := by decide +kernel
theorem dX0_distance_44 : decode cX0_distance 44 = .ok (.iadd, 1) := by decide +kernel
theorem dX0_distance_45 : decode cX0_distance 45 = .ok (.invokestatic 53, 3) := by decide +kernel
theorem dX0_distance_48 : decode cX0_distance 48 = .ok (.imul, 1) := by decide +kernel
theorem dX0_distance_49 : decode cX0_distance 49 = .ok (.istore 6, 2) := by decide +kernel
theorem dX0_distance_51 : decode cX0_distance 51 = .ok (.aload_n 0, 1) := by decide +kernel
theorem dX0_distance_52 : decode cX0_distance 52 = .ok (.getfield 25, 3) := by decide +kernel
theorem dX0_distance_55 : decode cX0_distance 55 = .ok (.iload 4, 2) := by decide +kernel
theorem dX0_distance_57 : decode cX0_distance 57 = .ok (.invokestatic 53, 3) := by decide +kernel
theorem dX0_distance_60 : decode cX0_distance 60 = .ok (.bipush 6, 2) := by decide +kernel
theorem dX0_distance_62 : decode cX0_distance 62 = .ok (.if_icmp .ne 7, 3) := by decide +kernel
theorem dX0_distance_65 : decode cX0_distance 65 = .ok (.iconst 1, 1) := by decide +kernel
theorem dX0_distance_66 : decode cX0_distance 66 = .ok (.goto 4, 3) := by decide +kernel
theorem dX0_distance_69 : decode cX0_distance 69 = .ok (.iconst 0, 1) := by decide +kernel
theorem dX0_distance_70 : decode cX0_distance 70 = .ok (.istore 7, 2) := by decide +kernel
theorem dX0_distance_72 : decode cX0_distance 72 = .ok (.aload_n 0, 1) := by decide +kernel
theorem dX0_distance_73 : decode cX0_distance 73 = .ok (.iload 4, 2) := by decide +kernel
theorem dX0_distance_75 : decode cX0_distance 75 = .ok (.iconst 1, 1) := by decide +kernel
theorem dX0_distance_76 : decode cX0_distance 76 = .ok (.invokevirtual 77, 3) := by decide +kernel
theorem dX0_distance_79 : decode cX0_distance 79 = .ok (.istore 8, 2) := by decide +kernel
theorem dX0_distance_81 : decode cX0_distance 81 = .ok (.aload_n 0, 1) := by decide +kernel
theorem dX0_distance_82 : decode cX0_distance 82 = .ok (.iload 4, 2) := by decide +kernel
theorem dX0_distance_84 : decode cX0_distance 84 = .ok (.iconst 1, 1) := by decide +kernel
theorem dX0_distance_85 : decode cX0_distance 85 = .ok (.iadd, 1) := by decide +kernel
theorem dX0_distance_86 : decode cX0_distance 86 = .ok (.iconst 0, 1) := by decide +kernel
theorem dX0_distance_87 : decode cX0_distance 87 = .ok (.invokevirtual 77, 3) := by decide +kernel
theorem dX0_distance_90 : decode cX0_distance 90 = .ok (.istore 9, 2) := by decide +kernel
theorem dX0_distance_92 : decode cX0_distance 92 = .ok (.aload_n 0, 1) := by decide +kernel
theorem dX0_distance_93 : decode cX0_distance 93 = .ok (.getfield 18, 3) := by decide +kernel
theorem dX0_distance_96 : decode cX0_distance 96 = .ok (.iload 4, 2) := by decide +kernel
theorem dX0_distance_98 : decode cX0_distance 98 = .ok (.invokestatic 53, 3) := by decide +kernel
theorem dX0_distance_101 : decode cX0_distance 101 = .ok (.istore 10, 2) := by decide +kernel
theorem dX0_distance_103 : decode cX0_distance 103 = .ok (.aload_n 0, 1) := by decide +kernel
theorem dX0_distance_104 : decode cX0_distance 104 = .ok (.getfield 18, 3) := by decide +kernel
theorem dX0_distance_107 : decode cX0_distance 107 = .ok (.iload 4, 2) := by decide +kernel
theorem dX0_distance_109 : decode cX0_distance 109 = .ok (.iconst 1, 1) := by decide +kernel
theorem dX0_distance_110 : decode cX0_distance 110 = .ok (.iadd, 1) := by decide +kernel
theorem dX0_distance_111 : decode cX0_distance 111 = .ok (.invokestatic 53, 3) := by decide +kernel
theorem dX0_distance_114 : decode cX0_distance 114 = .ok (.iload 10, 2) := by decide +kernel
theorem dX0_distance_116 : decode cX0_distance 116 = .ok (.isub, 1) := by decide +kernel
theorem dX0_distance_117 : decode cX0_distance 117 = .ok (.istore 11, 2) := by decide +kernel
theorem dX0_distance_119 : decode cX0_distance 119 = .ok (.iconst 1, 1) := by decide +kernel
theorem dX0_distance_120 : decode cX0_distance 120 = .ok (.istore 12, 2) := by decide +kernel
theorem dX0_distance_122 : decode cX0_distance 122 = .ok (.iload 12, 2) := by decide +kernel
theorem dX0_distance_124 : decode cX0_distance 124 = .ok (.iload 11, 2) := by decide +kernel
theorem dX0_distance_126 : decode cX0_distance 126 = .ok (.if_icmp .ge 67, 3) := by decide +kernel
theorem dX0_distance_129 : decode cX0_distance 129 = .ok (.iload_n 3, 1) := by decide +kernel
theorem dX0_distance_130 : decode cX0_distance 130 = .ok (.iload_n 2, 1) := by decide +kernel
theorem dX0_distance_131 : decode cX0_distance 131 = .ok (.if_icmp .ge 62, 3) := by decide +kernel
theorem dX0_distance_134 : decode cX0_distance 134 = .ok (.iload 7, 2) := by decide +kernel
theorem dX0_distance_136 : decode cX0_distance 136 = .ok (.ifCond .eq 8, 3) := by decide +kernel
theorem dX0_distance_139 : decode cX0_distance 139 = .ok (.iload 5, 2) := by decide +kernel
theorem dX0_distance_141 : decode cX0_distance 141 = .ok (.goto 24, 3) := by decide +kernel
theorem dX0_distance_144 : decode cX0_distance 144 = .ok (.iload 5, 2) := by decide +kernel
theorem dX0_distance_146 : decode cX0_distance 146 = .ok (.i2l, 1) := by decide +kernel
theorem dX0_distance_147 : decode cX0_distance 147 = .ok (.iload 6, 2) := by decide +kernel
theorem dX0_distance_149 : decode cX0_distance 149 = .ok (.i2l, 1) := by decide +kernel
theorem dX0_distance_150 : decode cX0_distance 150 = .ok (.iload 8, 2) := by decide +kernel
theorem dX0_distance_152 : decode cX0_distance 152 = .ok (.i2l, 1) := by decide +kernel
theorem dX0_distance_153 : decode cX0_distance 153 = .ok (.iload 9, 2) := by decide +kernel
theorem dX0_distance_155 : decode cX0_distance 155 = .ok (.i2l, 1) := by decide +kernel
theorem dX0_distance_156 : decode cX0_distance 156 = .ok (.iload 11, 2) := by decide +kernel
theorem dX0_distance_158 : decode cX0_distance 158 = .ok (.i2l, 1) := by decide +kernel
theorem dX0_distance_159 : decode cX0_distance 159 = .ok (.iload 12, 2) := by decide +kernel
theorem dX0_distance_161 : decode cX0_distance 161 = .ok (.i2l, 1) := by decide +kernel
theorem dX0_distance_162 : decode cX0_distance 162 = .ok (.invokestatic 148, 3) := by decide +kernel
theorem dX0_distance_165 : decode cX0_distance 165 = .ok (.istore 13, 2) := by decide +kernel
theorem dX0_distance_167 : decode cX0_distance 167 = .ok (.iload_n 3, 1) := by decide +kernel
theorem dX0_distance_168 : decode cX0_distance 168 = .ok (.iload 13, 2) := by decide +kernel
theorem dX0_distance_170 : decode cX0_distance 170 = .ok (.aload_n 1, 1) := by decide +kernel
theorem dX0_distance_171 : decode cX0_distance 171 = .ok (.iload 10, 2) := by decide +kernel
theorem dX0_distance_173 : decode cX0_distance 173 = .ok (.iload 12, 2) := by decide +kernel
theorem dX0_distance_175 : decode cX0_distance 175 = .ok (.iadd, 1) := by decide +kernel
theorem dX0_distance_176 : decode cX0_distance 176 = .ok (.invokestatic 53, 3) := by decide +kernel
theorem dX0_distance_179 : decode cX0_distance 179 = .ok (.isub, 1) := by decide +kernel
theorem dX0_distance_180 : decode cX0_distance 180 = .ok (.invokestatic 129, 3) := by decide +kernel
theorem dX0_distance_183 : decode cX0_distance 183 = .ok (.invokestatic 126, 3) := by decide +kernel
theorem dX0_distance_186 : decode cX0_distance 186 = .ok (.istore_n 3, 1) := by decide +kernel
theorem dX0_distance_187 : decode cX0_distance 187 = .ok (.iinc 12 1, 3) := by decide +kernel
theorem dX0_distance_190 : decode cX0_distance 190 = .ok (.goto (-68), 3) := by decide +kernel
theorem dX0_distance_193 : decode cX0_distance 193 = .ok (.iinc 4 1, 3) := by decide +kernel
theorem dX0_distance_196 : decode cX0_distance 196 = .ok (.goto (-191), 3) := by decide +kernel
theorem dX0_distance_199 : decode cX0_distance 199 = .ok (.iload_n 3, 1) := by decide +kernel
theorem dX0_distance_200 : decode cX0_distance 200 = .ok (.ireturn, 1) := by decide +kernel
theorem dX0_addTo_0 : decode cX0_addTo 0 = .ok (.ldc2_w 154, 3) := by decide +kernel
theorem dX0_addTo_3 : decode cX0_addTo 3 = .ok (.lload_n 1, 1) := by decide +kernel
theorem dX0_addTo_4 : decode cX0_addTo 4 = .ok (.lmul, 1) := by decide +kernel
theorem dX0_addTo_5 : decode cX0_addTo 5 = .ok (.aload_n 0, 1) := by decide +kernel
theorem dX0_addTo_6 : decode cX0_addTo 6 = .ok (.getfield 38, 3) := by decide +kernel
theorem dX0_addTo_9 : decode cX0_addTo 9 = .ok (.i2l, 1) := by decide +kernel
theorem dX0_addTo_10 : decode cX0_addTo 10 = .ok (.ladd, 1) := by decide +kernel
theorem dX0_addTo_11 : decode cX0_addTo 11 = .ok (.lstore_n 3, 1) := by decide +kernel
theorem dX0_addTo_12 : decode cX0_addTo 12 = .ok (.iconst 0, 1) := by decide +kernel
theorem dX0_addTo_13 : decode cX0_addTo 13 = .ok (.istore 5, 2) := by decide +kernel
theorem dX0_addTo_15 : decode cX0_addTo 15 = .ok (.iload 5, 2) := by decide +kernel
theorem dX0_addTo_17 : decode cX0_addTo 17 = .ok (.aload_n 0, 1) := by decide +kernel
theorem dX0_addTo_18 : decode cX0_addTo 18 = .ok (.getfield 38, 3) := by decide +kernel
theorem dX0_addTo_21 : decode cX0_addTo 21 = .ok (.if_icmp .ge 90, 3) := by decide +kernel
theorem dX0_addTo_24 : decode cX0_addTo 24 = .ok (.ldc2_w 154, 3) := by decide +kernel
theorem dX0_addTo_27 : decode cX0_addTo 27 = .ok (.lload_n 3, 1) := by decide +kernel
theorem dX0_addTo_28 : decode cX0_addTo 28 = .ok (.lmul, 1) := by decide +kernel
theorem dX0_addTo_29 : decode cX0_addTo 29 = .ok (.aload_n 0, 1) := by decide +kernel
theorem dX0_addTo_30 : decode cX0_addTo 30 = .ok (.getfield 18, 3) := by decide +kernel
theorem dX0_addTo_33 : decode cX0_addTo 33 = .ok (.iload 5, 2) := by decide +kernel
theorem dX0_addTo_35 : decode cX0_addTo 35 = .ok (.invokestatic 53, 3) := by decide +kernel
theorem dX0_addTo_38 : decode cX0_addTo 38 = .ok (.i2l, 1) := by decide +kernel
theorem dX0_addTo_39 : decode cX0_addTo 39 = .ok (.ladd, 1) := by decide +kernel
theorem dX0_addTo_40 : decode cX0_addTo 40 = .ok (.lstore_n 3, 1) := by decide +kernel
theorem dX0_addTo_41 : decode cX0_addTo 41 = .ok (.ldc2_w 154, 3) := by decide +kernel
theorem dX0_addTo_44 : decode cX0_addTo 44 = .ok (.lload_n 3, 1) := by decide +kernel
theorem dX0_addTo_45 : decode cX0_addTo 45 = .ok (.lmul, 1) := by decide +kernel
theorem dX0_addTo_46 : decode cX0_addTo 46 = .ok (.aload_n 0, 1) := by decide +kernel
theorem dX0_addTo_47 : decode cX0_addTo 47 = .ok (.getfield 22, 3) := by decide +kernel
theorem dX0_addTo_50 : decode cX0_addTo 50 = .ok (.iload 5, 2) := by decide +kernel
theorem dX0_addTo_52 : decode cX0_addTo 52 = .ok (.invokestatic 53, 3) := by decide +kernel
theorem dX0_addTo_55 : decode cX0_addTo 55 = .ok (.i2l, 1) := by decide +kernel
theorem dX0_addTo_56 : decode cX0_addTo 56 = .ok (.ladd, 1) := by decide +kernel
theorem dX0_addTo_57 : decode cX0_addTo 57 = .ok (.lstore_n 3, 1) := by decide +kernel
theorem dX0_addTo_58 : decode cX0_addTo 58 = .ok (.ldc2_w 154, 3) := by decide +kernel
theorem dX0_addTo_61 : decode cX0_addTo 61 = .ok (.lload_n 3, 1) := by decide +kernel
theorem dX0_addTo_62 : decode cX0_addTo 62 = .ok (.lmul, 1) := by decide +kernel
theorem dX0_addTo_63 : decode cX0_addTo 63 = .ok (.aload_n 0, 1) := by decide +kernel
theorem dX0_addTo_64 : decode cX0_addTo 64 = .ok (.getfield 25, 3) := by decide +kernel
theorem dX0_addTo_67 : decode cX0_addTo 67 = .ok (.iload 5, 2) := by decide +kernel
theorem dX0_addTo_69 : decode cX0_addTo 69 = .ok (.invokestatic 53, 3) := by decide +kernel
theorem dX0_addTo_72 : decode cX0_addTo 72 = .ok (.i2l, 1) := by decide +kernel
theorem dX0_addTo_73 : decode cX0_addTo 73 = .ok (.ladd, 1) := by decide +kernel
theorem dX0_addTo_74 : decode cX0_addTo 74 = .ok (.lstore_n 3, 1) := by decide +kernel
theorem dX0_addTo_75 : decode cX0_addTo 75 = .ok (.ldc2_w 154, 3) := by decide +kernel
theorem dX0_addTo_78 : decode cX0_addTo 78 = .ok (.lload_n 3, 1) := by decide +kernel
theorem dX0_addTo_79 : decode cX0_addTo 79 = .ok (.lmul, 1) := by decide +kernel
theorem dX0_addTo_80 : decode cX0_addTo 80 = .ok (.aload_n 0, 1) := by decide +kernel
theorem dX0_addTo_81 : decode cX0_addTo 81 = .ok (.iload 5, 2) := by decide +kernel
theorem dX0_addTo_83 : decode cX0_addTo 83 = .ok (.iconst 0, 1) := by decide +kernel
theorem dX0_addTo_84 : decode cX0_addTo 84 = .ok (.invokevirtual 77, 3) := by decide +kernel
theorem dX0_addTo_87 : decode cX0_addTo 87 = .ok (.i2l, 1) := by decide +kernel
theorem dX0_addTo_88 : decode cX0_addTo 88 = .ok (.ladd, 1) := by decide +kernel
theorem dX0_addTo_89 : decode cX0_addTo 89 = .ok (.lstore_n 3, 1) := by decide +kernel
theorem dX0_addTo_90 : decode cX0_addTo 90 = .ok (.ldc2_w 154, 3) := by decide +kernel
theorem dX0_addTo_93 : decode cX0_addTo 93 = .ok (.lload_n 3, 1) := by decide +kernel
theorem dX0_addTo_94 : decode cX0_addTo 94 = .ok (.lmul, 1) := by decide +kernel
theorem dX0_addTo_95 : decode cX0_addTo 95 = .ok (.aload_n 0, 1) := by decide +kernel
theorem dX0_addTo_96 : decode cX0_addTo 96 = .ok (.iload 5, 2) := by decide +kernel
theorem dX0_addTo_98 : decode cX0_addTo 98 = .ok (.iconst 1, 1) := by decide +kernel
theorem dX0_addTo_99 : decode cX0_addTo 99 = .ok (.invokevirtual 77, 3) := by decide +kernel
theorem dX0_addTo_102 : decode cX0_addTo 102 = .ok (.i2l, 1) := by decide +kernel
theorem dX0_addTo_103 : decode cX0_addTo 103 = .ok (.ladd, 1) := by decide +kernel
theorem dX0_addTo_104 : decode cX0_addTo 104 = .ok (.lstore_n 3, 1) := by decide +kernel
theorem dX0_addTo_105 : decode cX0_addTo 105 = .ok (.iinc 5 1, 3) := by decide +kernel
theorem dX0_addTo_108 : decode cX0_addTo 108 = .ok (.goto (-93), 3) := by decide +kernel
theorem dX0_addTo_111 : decode cX0_addTo 111 = .ok (.ldc2_w 154, 3) := by decide +kernel
theorem dX0_addTo_114 : decode cX0_addTo 114 = .ok (.lload_n 3, 1) := by decide +kernel
theorem dX0_addTo_115 : decode cX0_addTo 115 = .ok (.lmul, 1) := by decide +kernel
theorem dX0_addTo_116 : decode cX0_addTo 116 = .ok (.aload_n 0, 1) := by decide +kernel
theorem dX0_addTo_117 : decode cX0_addTo 117 = .ok (.invokevirtual 156, 3) := by decide +kernel
theorem dX0_addTo_120 : decode cX0_addTo 120 = .ok (.i2l, 1) := by decide +kernel
theorem dX0_addTo_121 : decode cX0_addTo 121 = .ok (.ladd, 1) := by decide +kernel
theorem dX0_addTo_122 : decode cX0_addTo 122 = .ok (.lstore_n 3, 1) := by decide +kernel
theorem dX0_addTo_123 : decode cX0_addTo 123 = .ok (.iconst 0, 1) := by decide +kernel
theorem dX0_addTo_124 : decode cX0_addTo 124 = .ok (.istore 5, 2) := by decide +kernel
theorem dX0_addTo_126 : decode cX0_addTo 126 = .ok (.iload 5, 2) := by decide +kernel
theorem dX0_addTo_128 : decode cX0_addTo 128 = .ok (.sipush 960, 3) := by decide +kernel
theorem dX0_addTo_131 : decode cX0_addTo 131 = .ok (.if_icmp .gt 30, 3) := by decide +kernel
theorem dX0_addTo_134 : decode cX0_addTo 134 = .ok (.aload_n 0, 1) := by decide +kernel
theorem dX0_addTo_135 : decode cX0_addTo 135 = .ok (.getfield 38, 3) := by decide +kernel
theorem dX0_addTo_138 : decode cX0_addTo 138 = .ok (.ifCond .le 23, 3) := by decide +kernel
theorem dX0_addTo_141 : decode cX0_addTo 141 = .ok (.ldc2_w 154, 3) := by decide +kernel
theorem dX0_addTo_144 : decode cX0_addTo 144 = .ok (.lload_n 3, 1) := by decide +kernel
theorem dX0_addTo_145 : decode cX0_addTo 145 = .ok (.lmul, 1) := by decide +kernel
theorem dX0_addTo_146 : decode cX0_addTo 146 = .ok (.aload_n 0, 1) := by decide +kernel
theorem dX0_addTo_147 : decode cX0_addTo 147 = .ok (.iload 5, 2) := by decide +kernel
theorem dX0_addTo_149 : decode cX0_addTo 149 = .ok (.invokevirtual 85, 3) := by decide +kernel
theorem dX0_addTo_152 : decode cX0_addTo 152 = .ok (.i2l, 1) := by decide +kernel
theorem dX0_addTo_153 : decode cX0_addTo 153 = .ok (.ladd, 1) := by decide +kernel
theorem dX0_addTo_154 : decode cX0_addTo 154 = .ok (.lstore_n 3, 1) := by decide +kernel
theorem dX0_addTo_155 : decode cX0_addTo 155 = .ok (.iinc 5 60, 3) := by decide +kernel
theorem dX0_addTo_158 : decode cX0_addTo 158 = .ok (.goto (-32), 3) := by decide +kernel
theorem dX0_addTo_161 : decode cX0_addTo 161 = .ok (.lload_n 3, 1) := by decide +kernel
theorem dX0_addTo_162 : decode cX0_addTo 162 = .ok (.lreturn, 1) := by decide +kernel
theorem dX1_init_0 : decode cX1_init 0 = .ok (.aload_n 0, 1) := by decide +kernel
theorem dX1_init_1 : decode cX1_init 1 = .ok (.invokespecial 3, 3) := by decide +kernel
theorem dX1_init_4 : decode cX1_init 4 = .ok (.aload_n 0, 1) := by decide +kernel
theorem dX1_init_5 : decode cX1_init 5 = .ok (.new 9, 3) := by decide +kernel
theorem dX1_init_8 : decode cX1_init 8 = .ok (.dup, 1) := by decide +kernel
theorem dX1_init_9 : decode cX1_init 9 = .ok (.invokespecial 11, 3) := by decide +kernel
theorem dX1_init_12 : decode cX1_init 12 = .ok (.putfield 12, 3) := by decide +kernel
theorem dX1_init_15 : decode cX1_init 15 = .ok (.return_, 1) := by decide +kernel
theorem dX1_read_0 : decode cX1_read 0 = .ok (.aload_n 1, 1) := by decide +kernel
theorem dX1_read_1 : decode cX1_read 1 = .ok (.invokevirtual 18, 3) := by decide +kernel
theorem dX1_read_4 : decode cX1_read 4 = .ok (.aload_n 0, 1) := by decide +kernel
theorem dX1_read_5 : decode cX1_read 5 = .ok (.getfield 12, 3) := by decide +kernel
theorem dX1_read_8 : decode cX1_read 8 = .ok (.iconst 0, 1) := by decide +kernel
theorem dX1_read_9 : decode cX1_read 9 = .ok (.putfield 23, 3) := by decide +kernel
theorem dX1_read_12 : decode cX1_read 12 = .ok (.aload_n 0, 1) := by decide +kernel
theorem dX1_read_13 : decode cX1_read 13 = .ok (.aload_n 1, 1) := by decide +kernel
theorem dX1_read_14 : decode cX1_read 14 = .ok (.invokevirtual 27, 3) := by decide +kernel
theorem dX1_read_17 : decode cX1_read 17 = .ok (.iconst 1, 1) := by decide +kernel
theorem dX1_read_18 : decode cX1_read 18 = .ok (.istore_n 2, 1) := by decide +kernel
theorem dX1_read_19 : decode cX1_read 19 = .ok (.iload_n 2, 1) := by decide +kernel
theorem dX1_read_20 : decode cX1_read 20 = .ok (.bipush 24, 2) := by decide +kernel
theorem dX1_read_22 : decode cX1_read 22 = .ok (.if_icmp .ge 23, 3) := by decide +kernel
theorem dX1_read_25 : decode cX1_read 25 = .ok (.aload_n 1, 1) := by decide +kernel
theorem dX1_read_26 : decode cX1_read 26 = .ok (.bipush 44, 2) := by decide +kernel
theorem dX1_read_28 : decode cX1_read 28 = .ok (.invokevirtual 31, 3) := by decide +kernel
theorem dX1_read_31 : decode cX1_read 31 = .ok (.ifCond .eq 14, 3) := by decide +kernel
theorem dX1_read_34 : decode cX1_read 34 = .ok (.aload_n 0, 1) := by decide +kernel
theorem dX1_read_35 : decode cX1_read 35 = .ok (.aload_n 1, 1) := by decide +kernel
theorem dX1_read_36 : decode cX1_read 36 = .ok (.invokevirtual 27, 3) := by decide +kernel
theorem dX1_read_39 : decode cX1_read 39 = .ok (.iinc 2 1, 3) := by decide +kernel
theorem dX1_read_42 : decode cX1_read 42 = .ok (.goto (-23), 3) := by decide +kernel
theorem dX1_read_45 : decode cX1_read 45 = .ok (.aload_n 1, 1) := by decide +kernel
theorem dX1_read_46 : decode cX1_read 46 = .ok (.bipush 59, 2) := by decide +kernel
theorem dX1_read_48 : decode cX1_read 48 = .ok (.invokevirtual 35, 3) := by decide +kernel
theorem dX1_read_51 : decode cX1_read 51 = .ok (.aload_n 1, 1) := by decide +kernel
theorem dX1_read_52 : decode cX1_read 52 = .ok (.invokevirtual 39, 3) := by decide +kernel
theorem dX1_read_55 : decode cX1_read 55 = .ok (.ireturn, 1) := by decide +kernel
theorem dX1_key_0 : decode cX1_key 0 = .ok (.aload_n 1, 1) := by decide +kernel
theorem dX1_key_1 : decode cX1_key 1 = .ok (.getfield 43, 3) := by decide +kernel
theorem dX1_key_4 : decode cX1_key 4 = .ok (.istore_n 2, 1) := by decide +kernel
theorem dX1_key_5 : decode cX1_key 5 = .ok (.aload_n 1, 1) := by decide +kernel
theorem dX1_key_6 : decode cX1_key 6 = .ok (.invokevirtual 46, 3) := by decide +kernel
theorem dX1_key_9 : decode cX1_key 9 = .ok (.istore_n 3, 1) := by decide +kernel
theorem dX1_key_10 : decode cX1_key 10 = .ok (.iload_n 3, 1) := by decide +kernel
theorem dX1_key_11 : decode cX1_key 11 = .ok (.sipush 480, 3) := by decide +kernel
theorem dX1_key_14 : decode cX1_key 14 = .ok (.if_icmp .gt 36, 3) := by decide +kernel
theorem dX1_key_17 : decode cX1_key 17 = .ok (.aload_n 0, 1) := by decide +kernel
theorem dX1_key_18 : decode cX1_key 18 = .ok (.getfield 12, 3) := by decide +kernel
theorem dX1_key_21 : decode cX1_key 21 = .ok (.getfield 23, 3) := by decide +kernel
theorem dX1_key_24 : decode cX1_key 24 = .ok (.ifCond .le 31, 3) := by decide +kernel
theorem dX1_key_27 : decode cX1_key 27 = .ok (.iload_n 3, 1) := by decide +kernel
theorem dX1_key_28 : decode cX1_key 28 = .ok (.aload_n 0, 1) := by decide +kernel
theorem dX1_key_29 : decode cX1_key 29 = .ok (.getfield 12, 3) := by decide +kernel
theorem dX1_key_32 : decode cX1_key 32 = .ok (.getfield 49, 3) := by decide +kernel
theorem dX1_key_35 : decode cX1_key 35 = .ok (.aload_n 0, 1) := by decide +kernel
theorem dX1_key_36 : decode cX1_key 36 = .ok (.getfield 12, 3) := by decide +kernel
theorem dX1_key_39 : decode cX1_key 39 = .ok (.getfield 23, 3) := by decide +kernel
theorem dX1_key_42 : decode cX1_key 42 = .ok (.iconst 1, 1) := by decide +kernel
theorem dX1_key_43 : decode cX1_key 43 = .ok (.isub, 1) := by decide +kernel
theorem dX1_key_44 : decode cX1_key 44 = .ok (.invokestatic 53, 3) := by decide +kernel
theorem dX1_key_47 : decode cX1_key 47 = .ok (.if_icmp .gt 8, 3) := by decide +kernel
theorem dX1_key_50 : decode cX1_key 50 = .ok (.aload_n 1, 1) := by decide +kernel
theorem dX1_key_51 : decode cX1_key 51 = .ok (.iload_n 2, 1) := by decide +kernel
theorem dX1_key_52 : decode cX1_key 52 = .ok (.invokevirtual 57, 3) := by decide +kernel
theorem dX1_key_55 : decode cX1_key 55 = .ok (.aload_n 1, 1) := by decide +kernel
theorem dX1_key_56 : decode cX1_key 56 = .ok (.bipush 58, 2) := by decide +kernel
theorem dX1_key_58 : decode cX1_key 58 = .ok (.invokevirtual 35, 3) := by decide +kernel
theorem dX1_key_61 : decode cX1_key 61 = .ok (.aload_n 1, 1) := by decide +kernel
theorem dX1_key_62 : decode cX1_key 62 = .ok (.bipush 45, 2) := by decide +kernel
theorem dX1_key_64 : decode cX1_key 64 = .ok (.invokevirtual 31, 3) := by decide +kernel
theorem dX1_key_67 : decode cX1_key 67 = .ok (.ifCond .eq 7, 3) := by decide +kernel
theorem dX1_key_70 : decode cX1_key 70 = .ok (.iconst (-1), 1) := by decide +kernel
theorem dX1_key_71 : decode cX1_key 71 = .ok (.goto 4, 3) := by decide +kernel
theorem dX1_key_74 : decode cX1_key 74 = .ok (.iconst 1, 1) := by decide +kernel
theorem dX1_key_75 : decode cX1_key 75 = .ok (.istore 4, 2) := by decide +kernel
theorem dX1_key_77 : decode cX1_key 77 = .ok (.iload 4, 2) := by decide +kernel
theorem dX1_key_79 : decode cX1_key 79 = .ok (.aload_n 1, 1) := by decide +kernel
theorem dX1_key_80 : decode cX1_key 80 = .ok (.invokevirtual 46, 3) := by decide +kernel
theorem dX1_key_83 : decode cX1_key 83 = .ok (.imul, 1) := by decide +kernel
theorem dX1_key_84 : decode cX1_key 84 = .ok (.istore 5, 2) := by decide +kernel
theorem dX1_key_86 : decode cX1_key 86 = .ok (.aload_n 0, 1) := by decide +kernel
theorem dX1_key_87 : decode cX1_key 87 = .ok (.getfield 12, 3) := by decide +kernel
theorem dX1_key_90 : decode cX1_key 90 = .ok (.iload_n 3, 1) := by decide +kernel
theorem dX1_key_91 : decode cX1_key 91 = .ok (.iload 5, 2) := by decide +kernel
theorem dX1_key_93 : decode cX1_key 93 = .ok (.aload_n 1, 1) := by decide +kernel
theorem dX1_key_94 : decode cX1_key 94 = .ok (.invokestatic 60, 3) := by decide +kernel
theorem dX1_key_97 : decode cX1_key 97 = .ok (.iconst 0, 1) := by decide +kernel
theorem dX1_key_98 : decode cX1_key 98 = .ok (.iconst 0, 1) := by decide +kernel
theorem dX1_key_99 : decode cX1_key 99 = .ok (.invokevirtual 64, 3) := by decide +kernel
theorem dX1_key_102 : decode cX1_key 102 = .ok (.pop, 1) := by decide +kernel
theorem dX1_key_103 : decode cX1_key 103 = .ok (.return_, 1) := by decide +kernel
theorem dX1_mode_0 : decode cX1_mode 0 = .ok (.aload_n 0, 1) := by decide +kernel
theorem dX1_mode_1 : decode cX1_mode 1 = .ok (.bipush 84, 2) := by decide +kernel
theorem dX1_mode_3 : decode cX1_mode 3 = .ok (.invokevirtual 31, 3) := by decide +kernel
theorem dX1_mode_6 : decode cX1_mode 6 = .ok (.ifCond .eq 5, 3) := by decide +kernel
theorem dX1_mode_9 : decode cX1_mode 9 = .ok (.iconst 1, 1) := by decide +kernel
theorem dX1_mode_10 : decode cX1_mode 10 = .ok (.ireturn, 1) := by decide +kernel
theorem dX1_mode_11 : decode cX1_mode 11 = .ok (.aload_n 0, 1) := by decide +kernel
theorem dX1_mode_12 : decode cX1_mode 12 = .ok (.bipush 76, 2) := by decide +kernel
theorem dX1_mode_14 : decode cX1_mode 14 = .ok (.invokevirtual 31, 3) := by decide +kernel
theorem dX1_mode_17 : decode cX1_mode 17 = .ok (.ifCond .eq 5, 3) := by decide +kernel
theorem dX1_mode_20 : decode cX1_mode 20 = .ok (.iconst 2, 1) := by decide +kernel
theorem dX1_mode_21 : decode cX1_mode 21 = .ok (.ireturn, 1) := by decide +kernel
theorem dX1_mode_22 : decode cX1_mode 22 = .ok (.aload_n 0, 1) := by decide +kernel
theorem dX1_mode_23 : decode cX1_mode 23 = .ok (.bipush 67, 2) := by decide +kernel
theorem dX1_mode_25 : decode cX1_mode 25 = .ok (.invokevirtual 31, 3) := by decide +kernel
theorem dX1_mode_28 : decode cX1_mode 28 = .ok (.ifCond .eq 5, 3) := by decide +kernel
theorem dX1_mode_31 : decode cX1_mode 31 = .ok (.iconst 4, 1) := by decide +kernel
theorem dX1_mode_32 : decode cX1_mode 32 = .ok (.ireturn, 1) := by decide +kernel
theorem dX1_mode_33 : decode cX1_mode 33 = .ok (.aload_n 0, 1) := by decide +kernel
theorem dX1_mode_34 : decode cX1_mode 34 = .ok (.bipush 77, 2) := by decide +kernel
theorem dX1_mode_36 : decode cX1_mode 36 = .ok (.invokevirtual 31, 3) := by decide +kernel
theorem dX1_mode_39 : decode cX1_mode 39 = .ok (.ifCond .eq 5, 3) := by decide +kernel
theorem dX1_mode_42 : decode cX1_mode 42 = .ok (.iconst 5, 1) := by decide +kernel
theorem dX1_mode_43 : decode cX1_mode 43 = .ok (.ireturn, 1) := by decide +kernel
theorem dX1_mode_44 : decode cX1_mode 44 = .ok (.aload_n 0, 1) := by decide +kernel
theorem dX1_mode_45 : decode cX1_mode 45 = .ok (.bipush 72, 2) := by decide +kernel
theorem dX1_mode_47 : decode cX1_mode 47 = .ok (.invokevirtual 31, 3) := by decide +kernel
theorem dX1_mode_50 : decode cX1_mode 50 = .ok (.ifCond .eq 6, 3) := by decide +kernel
theorem dX1_mode_53 : decode cX1_mode 53 = .ok (.bipush 6, 2) := by decide +kernel
theorem dX1_mode_55 : decode cX1_mode 55 = .ok (.ireturn, 1) := by decide +kernel
theorem dX1_mode_56 : decode cX1_mode 56 = .ok (.aload_n 0, 1) := by decide +kernel
theorem dX1_mode_57 : decode cX1_mode 57 = .ok (.bipush 65, 2) := by decide +kernel
theorem dX1_mode_59 : decode cX1_mode 59 = .ok (.invokevirtual 31, 3) := by decide +kernel
theorem dX1_mode_62 : decode cX1_mode 62 = .ok (.pop, 1) := by decide +kernel
theorem dX1_mode_63 : decode cX1_mode 63 = .ok (.iconst 3, 1) := by decide +kernel
theorem dX1_mode_64 : decode cX1_mode 64 = .ok (.ireturn, 1) := by decide +kernel
theorem dX2_init_0 : decode cX2_init 0 = .ok (.aload_n 0, 1) := by decide +kernel
theorem dX2_init_1 : decode cX2_init 1 = .ok (.invokespecial 3, 3) := by decide +kernel
theorem dX2_init_4 : decode cX2_init 4 = .ok (.aload_n 0, 1) := by decide +kernel
theorem dX2_init_5 : decode cX2_init 5 = .ok (.sipush 481, 3) := by decide +kernel
theorem dX2_init_8 : decode cX2_init 8 = .ok (.newarray .int, 2) := by decide +kernel
theorem dX2_init_10 : decode cX2_init 10 = .ok (.putfield 9, 3) := by decide +kernel
theorem dX2_init_13 : decode cX2_init 13 = .ok (.aload_n 0, 1) := by decide +kernel
theorem dX2_init_14 : decode cX2_init 14 = .ok (.new 15, 3) := by decide +kernel
theorem dX2_init_17 : decode cX2_init 17 = .ok (.dup, 1) := by decide +kernel
theorem dX2_init_18 : decode cX2_init 18 = .ok (.invokespecial 17, 3) := by decide +kernel
theorem dX2_init_21 : decode cX2_init 21 = .ok (.putfield 18, 3) := by decide +kernel
theorem dX2_init_24 : decode cX2_init 24 = .ok (.return_, 1) := by decide +kernel
theorem dX2_reduce_0 : decode cX2_reduce 0 = .ok (.aload_n 1, 1) := by decide +kernel
theorem dX2_reduce_1 : decode cX2_reduce 1 = .ok (.getfield 22, 3) := by decide +kernel
theorem dX2_reduce_4 : decode cX2_reduce 4 = .ok (.istore_n 3, 1) := by decide +kernel
theorem dX2_reduce_5 : decode cX2_reduce 5 = .ok (.iload_n 3, 1) := by decide +kernel
theorem dX2_reduce_6 : decode cX2_reduce 6 = .ok (.iconst 1, 1) := by decide +kernel
theorem dX2_reduce_7 : decode cX2_reduce 7 = .ok (.if_icmp .ge 7, 3) := by decide +kernel
theorem dX2_reduce_10 : decode cX2_reduce 10 = .ok (.iconst (-1), 1) := by decide +kernel
theorem dX2_reduce_11 : decode cX2_reduce 11 = .ok (.goto 13, 3) := by decide +kernel
theorem dX2_reduce_14 : decode cX2_reduce 14 = .ok (.aload_n 1, 1) := by decide +kernel
theorem dX2_reduce_15 : decode cX2_reduce 15 = .ok (.getfield 26, 3) := by decide +kernel
theorem dX2_reduce_18 : decode cX2_reduce 18 = .ok (.iload_n 3, 1) := by decide +kernel
theorem dX2_reduce_19 : decode cX2_reduce 19 = .ok (.iconst 1, 1) := by decide +kernel
theorem dX2_reduce_20 : decode cX2_reduce 20 = .ok (.isub, 1) := by decide +kernel
theorem dX2_reduce_21 : decode cX2_reduce 21 = .ok (.invokestatic 29, 3) := by decide +kernel
theorem dX2_reduce_24 : decode cX2_reduce 24 = .ok (.istore 4, 2) := by decide +kernel
theorem dX2_reduce_26 : decode cX2_reduce 26 = .ok (.iload_n 3, 1) := by decide +kernel
theorem dX2_reduce_27 : decode cX2_reduce 27 = .ok (.iconst 1, 1) := by decide +kernel
theorem dX2_reduce_28 : decode cX2_reduce 28 = .ok (.if_icmp .ge 7, 3) := by decide +kernel
theorem dX2_reduce_31 : decode cX2_reduce 31 = .ok (.iconst 0, 1) := by decide +kernel
theorem dX2_reduce_32 : decode cX2_reduce 32 = .ok (.goto 11, 3) := by decide +kernel
theorem dX2_reduce_35 : decode cX2_reduce 35 = .ok (.aload_n 1, 1) := by decide +kernel
theorem dX2_reduce_36 : decode cX2_reduce 36 = .ok (.getfield 26, 3) := by decide +kernel
theorem dX2_reduce_39 : decode cX2_reduce 39 = .ok (.iconst 0, 1) := by decide +kernel
theorem dX2_reduce_40 : decode cX2_reduce 40 = .ok (.invokestatic 29, 3) := by decide +kernel
theorem dX2_reduce_43 : decode cX2_reduce 43 = .ok (.istore 5, 2) := by decide +kernel
theorem dX2_reduce_45 : decode cX2_reduce 45 = .ok (.iload 5, 2) := by decide +kernel
theorem dX2_reduce_47 : decode cX2_reduce 47 = .ok (.iload 4, 2) := by decide +kernel
theorem dX2_reduce_49 : decode cX2_reduce 49 = .ok (.if_icmp .gt 24, 3) := by decide +kernel
theorem dX2_reduce_52 : decode cX2_reduce 52 = .ok (.aload_n 0, 1) := by decide +kernel
theorem dX2_reduce_53 : decode cX2_reduce 53 = .ok (.getfield 9, 3) := by decide +kernel
theorem dX2_reduce_56 : decode cX2_reduce 56 = .ok (.iload 5, 2) := by decide +kernel
theorem dX2_reduce_58 : decode cX2_reduce 58 = .ok (.aload_n 1, 1) := by decide +kernel
theorem dX2_reduce_59 : decode cX2_reduce 59 = .ok (.iload 5, 2) := by decide +kernel
