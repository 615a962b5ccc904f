theorem dX2_reduce_61 : decode cX2_reduce 61 = .ok (.invokevirtual 33, 3) := by decide +kernel
theorem dX2_reduce_64 : decode cX2_reduce 64 = .ok (.invokestatic 37, 3) := by decide +kernel
theorem dX2_reduce_67 : decode cX2_reduce 67 = .ok (.iinc 5 1, 3) := by decide +kernel
theorem dX2_reduce_70 : decode cX2_reduce 70 = .ok (.goto (-25), 3) := by decide +kernel
theorem dX2_reduce_73 : decode cX2_reduce 73 = .ok (.aload_n 0, 1) := by decide +kernel
theorem dX2_reduce_74 : decode cX2_reduce 74 = .ok (.aload_n 1, 1) := by decide +kernel
theorem dX2_reduce_75 : decode cX2_reduce 75 = .ok (.iload_n 2, 1) := by decide +kernel
theorem dX2_reduce_76 : decode cX2_reduce 76 = .ok (.invokevirtual 41, 3) := by decide +kernel
theorem dX2_reduce_79 : decode cX2_reduce 79 = .ok (.istore 5, 2) := by decide +kernel
theorem dX2_reduce_81 : decode cX2_reduce 81 = .ok (.iconst 0, 1) := by decide +kernel
theorem dX2_reduce_82 : decode cX2_reduce 82 = .ok (.istore 6, 2) := by decide +kernel
theorem dX2_reduce_84 : decode cX2_reduce 84 = .ok (.iload 6, 2) := by decide +kernel
theorem dX2_reduce_86 : decode cX2_reduce 86 = .ok (.bipush 24, 2) := by decide +kernel
theorem dX2_reduce_88 : decode cX2_reduce 88 = .ok (.if_icmp .ge 28, 3) := by decide +kernel
theorem dX2_reduce_91 : decode cX2_reduce 91 = .ok (.iload 5, 2) := by decide +kernel
theorem dX2_reduce_93 : decode cX2_reduce 93 = .ok (.ifCond .le 23, 3) := by decide +kernel
theorem dX2_reduce_96 : decode cX2_reduce 96 = .ok (.aload_n 1, 1) := by decide +kernel
theorem dX2_reduce_97 : decode cX2_reduce 97 = .ok (.iload 5, 2) := by decide +kernel
theorem dX2_reduce_99 : decode cX2_reduce 99 = .ok (.invokevirtual 45, 3) := by decide +kernel
theorem dX2_reduce_102 : decode cX2_reduce 102 = .ok (.aload_n 0, 1) := by decide +kernel
theorem dX2_reduce_103 : decode cX2_reduce 103 = .ok (.aload_n 1, 1) := by decide +kernel
theorem dX2_reduce_104 : decode cX2_reduce 104 = .ok (.iload_n 2, 1) := by decide +kernel
theorem dX2_reduce_105 : decode cX2_reduce 105 = .ok (.invokevirtual 41, 3) := by decide +kernel
theorem dX2_reduce_108 : decode cX2_reduce 108 = .ok (.istore 5, 2) := by decide +kernel
theorem dX2_reduce_110 : decode cX2_reduce 110 = .ok (.iinc 6 1, 3) := by decide +kernel
theorem dX2_reduce_113 : decode cX2_reduce 113 = .ok (.goto (-29), 3) := by decide +kernel
theorem dX2_reduce_116 : decode cX2_reduce 116 = .ok (.iload_n 3, 1) := by decide +kernel
theorem dX2_reduce_117 : decode cX2_reduce 117 = .ok (.aload_n 1, 1) := by decide +kernel
theorem dX2_reduce_118 : decode cX2_reduce 118 = .ok (.getfield 22, 3) := by decide +kernel
theorem dX2_reduce_121 : decode cX2_reduce 121 = .ok (.isub, 1) := by decide +kernel
theorem dX2_reduce_122 : decode cX2_reduce 122 = .ok (.ireturn, 1) := by decide +kernel
theorem dX2_cheapest_0 : decode cX2_cheapest 0 = .ok (.iconst (-1), 1) := by decide +kernel
theorem dX2_cheapest_1 : decode cX2_cheapest 1 = .ok (.istore_n 3, 1) := by decide +kernel
theorem dX2_cheapest_2 : decode cX2_cheapest 2 = .ok (.iload_n 2, 1) := by decide +kernel
theorem dX2_cheapest_3 : decode cX2_cheapest 3 = .ok (.iconst 1, 1) := by decide +kernel
theorem dX2_cheapest_4 : decode cX2_cheapest 4 = .ok (.iadd, 1) := by decide +kernel
theorem dX2_cheapest_5 : decode cX2_cheapest 5 = .ok (.istore 4, 2) := by decide +kernel
theorem dX2_cheapest_7 : decode cX2_cheapest 7 = .ok (.iconst 1, 1) := by decide +kernel
theorem dX2_cheapest_8 : decode cX2_cheapest 8 = .ok (.istore 5, 2) := by decide +kernel
theorem dX2_cheapest_10 : decode cX2_cheapest 10 = .ok (.iload 5, 2) := by decide +kernel
theorem dX2_cheapest_12 : decode cX2_cheapest 12 = .ok (.aload_n 1, 1) := by decide +kernel
theorem dX2_cheapest_13 : decode cX2_cheapest 13 = .ok (.getfield 22, 3) := by decide +kernel
theorem dX2_cheapest_16 : decode cX2_cheapest 16 = .ok (.iconst 1, 1) := by decide +kernel
theorem dX2_cheapest_17 : decode cX2_cheapest 17 = .ok (.isub, 1) := by decide +kernel
theorem dX2_cheapest_18 : decode cX2_cheapest 18 = .ok (.if_icmp .ge 55, 3) := by decide +kernel
theorem dX2_cheapest_21 : decode cX2_cheapest 21 = .ok (.aload_n 0, 1) := by decide +kernel
theorem dX2_cheapest_22 : decode cX2_cheapest 22 = .ok (.getfield 18, 3) := by decide +kernel
theorem dX2_cheapest_25 : decode cX2_cheapest 25 = .ok (.aload_n 1, 1) := by decide +kernel
theorem dX2_cheapest_26 : decode cX2_cheapest 26 = .ok (.invokevirtual 49, 3) := by decide +kernel
theorem dX2_cheapest_29 : decode cX2_cheapest 29 = .ok (.aload_n 0, 1) := by decide +kernel
theorem dX2_cheapest_30 : decode cX2_cheapest 30 = .ok (.getfield 18, 3) := by decide +kernel
theorem dX2_cheapest_33 : decode cX2_cheapest 33 = .ok (.iload 5, 2) := by decide +kernel
theorem dX2_cheapest_35 : decode cX2_cheapest 35 = .ok (.invokevirtual 45, 3) := by decide +kernel
theorem dX2_cheapest_38 : decode cX2_cheapest 38 = .ok (.aload_n 0, 1) := by decide +kernel
theorem dX2_cheapest_39 : decode cX2_cheapest 39 = .ok (.getfield 18, 3) := by decide +kernel
theorem dX2_cheapest_42 : decode cX2_cheapest 42 = .ok (.aload_n 0, 1) := by decide +kernel
theorem dX2_cheapest_43 : decode cX2_cheapest 43 = .ok (.getfield 9, 3) := by decide +kernel
theorem dX2_cheapest_46 : decode cX2_cheapest 46 = .ok (.iload 4, 2) := by decide +kernel
theorem dX2_cheapest_48 : decode cX2_cheapest 48 = .ok (.invokevirtual 53, 3) := by decide +kernel
theorem dX2_cheapest_51 : decode cX2_cheapest 51 = .ok (.istore 6, 2) := by decide +kernel
theorem dX2_cheapest_53 : decode cX2_cheapest 53 = .ok (.iload 6, 2) := by decide +kernel
theorem dX2_cheapest_55 : decode cX2_cheapest 55 = .ok (.iload 4, 2) := by decide +kernel
theorem dX2_cheapest_57 : decode cX2_cheapest 57 = .ok (.if_icmp .ge 10, 3) := by decide +kernel
theorem dX2_cheapest_60 : decode cX2_cheapest 60 = .ok (.iload 5, 2) := by decide +kernel
theorem dX2_cheapest_62 : decode cX2_cheapest 62 = .ok (.istore_n 3, 1) := by decide +kernel
theorem dX2_cheapest_63 : decode cX2_cheapest 63 = .ok (.iload 6, 2) := by decide +kernel
theorem dX2_cheapest_65 : decode cX2_cheapest 65 = .ok (.istore 4, 2) := by decide +kernel
theorem dX2_cheapest_67 : decode cX2_cheapest 67 = .ok (.iinc 5 1, 3) := by decide +kernel
theorem dX2_cheapest_70 : decode cX2_cheapest 70 = .ok (.goto (-60), 3) := by decide +kernel
theorem dX2_cheapest_73 : decode cX2_cheapest 73 = .ok (.iload_n 3, 1) := by decide +kernel
theorem dX2_cheapest_74 : decode cX2_cheapest 74 = .ok (.ireturn, 1) := by decide +kernel
theorem dX3_init_0 : decode cX3_init 0 = .ok (.aload_n 0, 1) := by decide +kernel
theorem dX3_init_1 : decode cX3_init 1 = .ok (.invokespecial 3, 3) := by decide +kernel
theorem dX3_init_4 : decode cX3_init 4 = .ok (.aload_n 0, 1) := by decide +kernel
theorem dX3_init_5 : decode cX3_init 5 = .ok (.iconst 1, 1) := by decide +kernel
theorem dX3_init_6 : decode cX3_init 6 = .ok (.putfield 9, 3) := by decide +kernel
theorem dX3_init_9 : decode cX3_init 9 = .ok (.aload_n 0, 1) := by decide +kernel
theorem dX3_init_10 : decode cX3_init 10 = .ok (.bipush 120, 2) := by decide +kernel
theorem dX3_init_12 : decode cX3_init 12 = .ok (.newarray .int, 2) := by decide +kernel
theorem dX3_init_14 : decode cX3_init 14 = .ok (.putfield 15, 3) := by decide +kernel
theorem dX3_init_17 : decode cX3_init 17 = .ok (.aload_n 0, 1) := by decide +kernel
theorem dX3_init_18 : decode cX3_init 18 = .ok (.bipush 120, 2) := by decide +kernel
theorem dX3_init_20 : decode cX3_init 20 = .ok (.newarray .int, 2) := by decide +kernel
theorem dX3_init_22 : decode cX3_init 22 = .ok (.putfield 19, 3) := by decide +kernel
theorem dX3_init_25 : decode cX3_init 25 = .ok (.return_, 1) := by decide +kernel
theorem dX3_copy_0 : decode cX3_copy 0 = .ok (.aload_n 0, 1) := by decide +kernel
theorem dX3_copy_1 : decode cX3_copy 1 = .ok (.aload_n 1, 1) := by decide +kernel
theorem dX3_copy_2 : decode cX3_copy 2 = .ok (.getfield 9, 3) := by decide +kernel
theorem dX3_copy_5 : decode cX3_copy 5 = .ok (.putfield 9, 3) := by decide +kernel
theorem dX3_copy_8 : decode cX3_copy 8 = .ok (.aload_n 1, 1) := by decide +kernel
theorem dX3_copy_9 : decode cX3_copy 9 = .ok (.getfield 15, 3) := by decide +kernel
theorem dX3_copy_12 : decode cX3_copy 12 = .ok (.aload_n 0, 1) := by decide +kernel
theorem dX3_copy_13 : decode cX3_copy 13 = .ok (.getfield 15, 3) := by decide +kernel
theorem dX3_copy_16 : decode cX3_copy 16 = .ok (.invokestatic 22, 3) := by decide +kernel
theorem dX3_copy_19 : decode cX3_copy 19 = .ok (.aload_n 1, 1) := by decide +kernel
theorem dX3_copy_20 : decode cX3_copy 20 = .ok (.getfield 19, 3) := by decide +kernel
theorem dX3_copy_23 : decode cX3_copy 23 = .ok (.aload_n 0, 1) := by decide +kernel
theorem dX3_copy_24 : decode cX3_copy 24 = .ok (.getfield 19, 3) := by decide +kernel
theorem dX3_copy_27 : decode cX3_copy 27 = .ok (.invokestatic 22, 3) := by decide +kernel
theorem dX3_copy_30 : decode cX3_copy 30 = .ok (.return_, 1) := by decide +kernel
theorem dX3_add_0 : decode cX3_add 0 = .ok (.aload_n 0, 1) := by decide +kernel
theorem dX3_add_1 : decode cX3_add 1 = .ok (.getfield 15, 3) := by decide +kernel
theorem dX3_add_4 : decode cX3_add 4 = .ok (.aload_n 0, 1) := by decide +kernel
theorem dX3_add_5 : decode cX3_add 5 = .ok (.getfield 9, 3) := by decide +kernel
theorem dX3_add_8 : decode cX3_add 8 = .ok (.iload_n 1, 1) := by decide +kernel
theorem dX3_add_9 : decode cX3_add 9 = .ok (.invokestatic 26, 3) := by decide +kernel
theorem dX3_add_12 : decode cX3_add 12 = .ok (.aload_n 0, 1) := by decide +kernel
theorem dX3_add_13 : decode cX3_add 13 = .ok (.getfield 19, 3) := by decide +kernel
theorem dX3_add_16 : decode cX3_add 16 = .ok (.aload_n 0, 1) := by decide +kernel
theorem dX3_add_17 : decode cX3_add 17 = .ok (.getfield 9, 3) := by decide +kernel
theorem dX3_add_20 : decode cX3_add 20 = .ok (.iload_n 2, 1) := by decide +kernel
theorem dX3_add_21 : decode cX3_add 21 = .ok (.invokestatic 26, 3) := by decide +kernel
theorem dX3_add_24 : decode cX3_add 24 = .ok (.aload_n 0, 1) := by decide +kernel
theorem dX3_add_25 : decode cX3_add 25 = .ok (.dup, 1) := by decide +kernel
theorem dX3_add_26 : decode cX3_add 26 = .ok (.getfield 9, 3) := by decide +kernel
theorem dX3_add_29 : decode cX3_add 29 = .ok (.iconst 1, 1) := by decide +kernel
theorem dX3_add_30 : decode cX3_add 30 = .ok (.iadd, 1) := by decide +kernel
theorem dX3_add_31 : decode cX3_add 31 = .ok (.putfield 9, 3) := by decide +kernel
theorem dX3_add_34 : decode cX3_add 34 = .ok (.return_, 1) := by decide +kernel
theorem dX3_operands_0 : decode cX3_operands 0 = .ok (.iconst 0, 1) := by decide +kernel
theorem dX3_operands_1 : decode cX3_operands 1 = .ok (.istore_n 1, 1) := by decide +kernel
theorem dX3_operands_2 : decode cX3_operands 2 = .ok (.iconst 0, 1) := by decide +kernel
theorem dX3_operands_3 : decode cX3_operands 3 = .ok (.istore_n 2, 1) := by decide +kernel
theorem dX3_operands_4 : decode cX3_operands 4 = .ok (.iload_n 2, 1) := by decide +kernel
theorem dX3_operands_5 : decode cX3_operands 5 = .ok (.aload_n 0, 1) := by decide +kernel
theorem dX3_operands_6 : decode cX3_operands 6 = .ok (.getfield 9, 3) := by decide +kernel
theorem dX3_operands_9 : decode cX3_operands 9 = .ok (.if_icmp .ge 35, 3) := by decide +kernel
theorem dX3_operands_12 : decode cX3_operands 12 = .ok (.aload_n 0, 1) := by decide +kernel
theorem dX3_operands_13 : decode cX3_operands 13 = .ok (.getfield 15, 3) := by decide +kernel
theorem dX3_operands_16 : decode cX3_operands 16 = .ok (.iload_n 2, 1) := by decide +kernel
theorem dX3_operands_17 : decode cX3_operands 17 = .ok (.invokestatic 30, 3) := by decide +kernel
theorem dX3_operands_20 : decode cX3_operands 20 = .ok (.istore_n 3, 1) := by decide +kernel
theorem dX3_operands_21 : decode cX3_operands 21 = .ok (.iload_n 1, 1) := by decide +kernel
theorem dX3_operands_22 : decode cX3_operands 22 = .ok (.iload_n 3, 1) := by decide +kernel
theorem dX3_operands_23 : decode cX3_operands 23 = .ok (.ifCond .eq 8, 3) := by decide +kernel
theorem dX3_operands_26 : decode cX3_operands 26 = .ok (.iload_n 3, 1) := by decide +kernel
theorem dX3_operands_27 : decode cX3_operands 27 = .ok (.iconst 1, 1) := by decide +kernel
theorem dX3_operands_28 : decode cX3_operands 28 = .ok (.if_icmp .ne 7, 3) := by decide +kernel
theorem dX3_operands_31 : decode cX3_operands 31 = .ok (.iconst 1, 1) := by decide +kernel
theorem dX3_operands_32 : decode cX3_operands 32 = .ok (.goto 4, 3) := by decide +kernel
theorem dX3_operands_35 : decode cX3_operands 35 = .ok (.iconst 0, 1) := by decide +kernel
theorem dX3_operands_36 : decode cX3_operands 36 = .ok (.iadd, 1) := by decide +kernel
theorem dX3_operands_37 : decode cX3_operands 37 = .ok (.istore_n 1, 1) := by decide +kernel
theorem dX3_operands_38 : decode cX3_operands 38 = .ok (.iinc 2 1, 3) := by decide +kernel
theorem dX3_operands_41 : decode cX3_operands 41 = .ok (.goto (-37), 3) := by decide +kernel
theorem dX3_operands_44 : decode cX3_operands 44 = .ok (.iload_n 1, 1) := by decide +kernel
theorem dX3_operands_45 : decode cX3_operands 45 = .ok (.ireturn, 1) := by decide +kernel
theorem dX4_init_0 : decode cX4_init 0 = .ok (.aload_n 0, 1) := by decide +kernel
theorem dX4_init_1 : decode cX4_init 1 = .ok (.invokespecial 3, 3) := by decide +kernel
theorem dX4_init_4 : decode cX4_init 4 = .ok (.aload_n 0, 1) := by decide +kernel
theorem dX4_init_5 : decode cX4_init 5 = .ok (.new 9, 3) := by decide +kernel
theorem dX4_init_8 : decode cX4_init 8 = .ok (.dup, 1) := by decide +kernel
theorem dX4_init_9 : decode cX4_init 9 = .ok (.invokespecial 11, 3) := by decide +kernel
theorem dX4_init_12 : decode cX4_init 12 = .ok (.putfield 12, 3) := by decide +kernel
theorem dX4_init_15 : decode cX4_init 15 = .ok (.return_, 1) := by decide +kernel
theorem dX4_read_0 : decode cX4_read 0 = .ok (.aload_n 1, 1) := by decide +kernel
theorem dX4_read_1 : decode cX4_read 1 = .ok (.invokevirtual 18, 3) := by decide +kernel
theorem dX4_read_4 : decode cX4_read 4 = .ok (.aload_n 0, 1) := by decide +kernel
theorem dX4_read_5 : decode cX4_read 5 = .ok (.getfield 12, 3) := by decide +kernel
theorem dX4_read_8 : decode cX4_read 8 = .ok (.iconst 0, 1) := by decide +kernel
theorem dX4_read_9 : decode cX4_read 9 = .ok (.putfield 23, 3) := by decide +kernel
theorem dX4_read_12 : decode cX4_read 12 = .ok (.aload_n 0, 1) := by decide +kernel
theorem dX4_read_13 : decode cX4_read 13 = .ok (.aload_n 1, 1) := by decide +kernel
theorem dX4_read_14 : decode cX4_read 14 = .ok (.iconst 0, 1) := by decide +kernel
theorem dX4_read_15 : decode cX4_read 15 = .ok (.invokevirtual 27, 3) := by decide +kernel
theorem dX4_read_18 : decode cX4_read 18 = .ok (.aload_n 1, 1) := by decide +kernel
theorem dX4_read_19 : decode cX4_read 19 = .ok (.invokevirtual 31, 3) := by decide +kernel
theorem dX4_read_22 : decode cX4_read 22 = .ok (.ireturn, 1) := by decide +kernel
theorem dX4_sum_0 : decode cX4_sum 0 = .ok (.aload_n 0, 1) := by decide +kernel
theorem dX4_sum_1 : decode cX4_sum 1 = .ok (.aload_n 1, 1) := by decide +kernel
theorem dX4_sum_2 : decode cX4_sum 2 = .ok (.iload_n 2, 1) := by decide +kernel
theorem dX4_sum_3 : decode cX4_sum 3 = .ok (.invokevirtual 35, 3) := by decide +kernel
theorem dX4_sum_6 : decode cX4_sum 6 = .ok (.iconst 0, 1) := by decide +kernel
theorem dX4_sum_7 : decode cX4_sum 7 = .ok (.istore_n 3, 1) := by decide +kernel
theorem dX4_sum_8 : decode cX4_sum 8 = .ok (.iload_n 3, 1) := by decide +kernel
theorem dX4_sum_9 : decode cX4_sum 9 = .ok (.bipush 120, 2) := by decide +kernel
theorem dX4_sum_11 : decode cX4_sum 11 = .ok (.if_icmp .ge 60, 3) := by decide +kernel
theorem dX4_sum_14 : decode cX4_sum 14 = .ok (.aload_n 1, 1) := by decide +kernel
theorem dX4_sum_15 : decode cX4_sum 15 = .ok (.invokevirtual 38, 3) := by decide +kernel
theorem dX4_sum_18 : decode cX4_sum 18 = .ok (.bipush 43, 2) := by decide +kernel
theorem dX4_sum_20 : decode cX4_sum 20 = .ok (.if_icmp .ne 7, 3) := by decide +kernel
theorem dX4_sum_23 : decode cX4_sum 23 = .ok (.iconst 2, 1) := by decide +kernel
theorem dX4_sum_24 : decode cX4_sum 24 = .ok (.goto 4, 3) := by decide +kernel
theorem dX4_sum_27 : decode cX4_sum 27 = .ok (.iconst 3, 1) := by decide +kernel
theorem dX4_sum_28 : decode cX4_sum 28 = .ok (.istore 4, 2) := by decide +kernel
theorem dX4_sum_30 : decode cX4_sum 30 = .ok (.aload_n 1, 1) := by decide +kernel
theorem dX4_sum_31 : decode cX4_sum 31 = .ok (.bipush 43, 2) := by decide +kernel
theorem dX4_sum_33 : decode cX4_sum 33 = .ok (.invokevirtual 41, 3) := by decide +kernel
theorem dX4_sum_36 : decode cX4_sum 36 = .ok (.ifCond .ne 13, 3) := by decide +kernel
theorem dX4_sum_39 : decode cX4_sum 39 = .ok (.aload_n 1, 1) := by decide +kernel
theorem dX4_sum_40 : decode cX4_sum 40 = .ok (.bipush 45, 2) := by decide +kernel
theorem dX4_sum_42 : decode cX4_sum 42 = .ok (.invokevirtual 41, 3) := by decide +kernel
theorem dX4_sum_45 : decode cX4_sum 45 = .ok (.ifCond .ne 4, 3) := by decide +kernel
theorem dX4_sum_48 : decode cX4_sum 48 = .ok (.return_, 1) := by decide +kernel
theorem dX4_sum_49 : decode cX4_sum 49 = .ok (.aload_n 0, 1) := by decide +kernel
theorem dX4_sum_50 : decode cX4_sum 50 = .ok (.aload_n 1, 1) := by decide +kernel
theorem dX4_sum_51 : decode cX4_sum 51 = .ok (.iload_n 2, 1) := by decide +kernel
theorem dX4_sum_52 : decode cX4_sum 52 = .ok (.invokevirtual 35, 3) := by decide +kernel
theorem dX4_sum_55 : decode cX4_sum 55 = .ok (.aload_n 0, 1) := by decide +kernel
theorem dX4_sum_56 : decode cX4_sum 56 = .ok (.getfield 12, 3) := by decide +kernel
theorem dX4_sum_59 : decode cX4_sum 59 = .ok (.iload 4, 2) := by decide +kernel
theorem dX4_sum_61 : decode cX4_sum 61 = .ok (.iconst 0, 1) := by decide +kernel
theorem dX4_sum_62 : decode cX4_sum 62 = .ok (.invokevirtual 45, 3) := by decide +kernel
theorem dX4_sum_65 : decode cX4_sum 65 = .ok (.iinc 3 1, 3) := by decide +kernel
theorem dX4_sum_68 : decode cX4_sum 68 = .ok (.goto (-60), 3) := by decide +kernel
theorem dX4_sum_71 : decode cX4_sum 71 = .ok (.return_, 1) := by decide +kernel
theorem dX4_product_0 : decode cX4_product 0 = .ok (.aload_n 0, 1) := by decide +kernel
theorem dX4_product_1 : decode cX4_product 1 = .ok (.aload_n 1, 1) := by decide +kernel
theorem dX4_product_2 : decode cX4_product 2 = .ok (.iload_n 2, 1) := by decide +kernel
theorem dX4_product_3 : decode cX4_product 3 = .ok (.invokevirtual 49, 3) := by decide +kernel
theorem dX4_product_6 : decode cX4_product 6 = .ok (.iconst 0, 1) := by decide +kernel
theorem dX4_product_7 : decode cX4_product 7 = .ok (.istore_n 3, 1) := by decide +kernel
theorem dX4_product_8 : decode cX4_product 8 = .ok (.iload_n 3, 1) := by decide +kernel
theorem dX4_product_9 : decode cX4_product 9 = .ok (.bipush 120, 2) := by decide +kernel
theorem dX4_product_11 : decode cX4_product 11 = .ok (.if_icmp .ge 33, 3) := by decide +kernel
theorem dX4_product_14 : decode cX4_product 14 = .ok (.aload_n 1, 1) := by decide +kernel
theorem dX4_product_15 : decode cX4_product 15 = .ok (.bipush 42, 2) := by decide +kernel
theorem dX4_product_17 : decode cX4_product 17 = .ok (.invokevirtual 41, 3) := by decide +kernel
theorem dX4_product_20 : decode cX4_product 20 = .ok (.ifCond .eq 24, 3) := by decide +kernel
theorem dX4_product_23 : decode cX4_product 23 = .ok (.aload_n 0, 1) := by decide +kernel
theorem dX4_product_24 : decode cX4_product 24 = .ok (.aload_n 1, 1) := by decide +kernel
theorem dX4_product_25 : decode cX4_product 25 = .ok (.iload_n 2, 1) := by decide +kernel
theorem dX4_product_26 : decode cX4_product 26 = .ok (.invokevirtual 49, 3) := by decide +kernel
theorem dX4_product_29 : decode cX4_product 29 = .ok (.aload_n 0, 1) := by decide +kernel
theorem dX4_product_30 : decode cX4_product 30 = .ok (.getfield 12, 3) := by decide +kernel
theorem dX4_product_33 : decode cX4_product 33 = .ok (.iconst 4, 1) := by decide +kernel
theorem dX4_product_34 : decode cX4_product 34 = .ok (.iconst 0, 1) := by decide +kernel
theorem dX4_product_35 : decode cX4_product 35 = .ok (.invokevirtual 45, 3) := by decide +kernel
theorem dX4_product_38 : decode cX4_product 38 = .ok (.iinc 3 1, 3) := by decide +kernel
theorem dX4_product_41 : decode cX4_product 41 = .ok (.goto (-33), 3) := by decide +kernel
theorem dX4_product_44 : decode cX4_product 44 = .ok (.return_, 1) := by decide +kernel
theorem dX4_factor_0 : decode cX4_factor 0 = .ok (.aload_n 1, 1) := by decide +kernel
theorem dX4_factor_1 : decode cX4_factor 1 = .ok (.invokevirtual 38, 3) := by decide +kernel
theorem dX4_factor_4 : decode cX4_factor 4 = .ok (.istore_n 3, 1) := by decide +kernel
theorem dX4_factor_5 : decode cX4_factor 5 = .ok (.iload_n 3, 1) := by decide +kernel
theorem dX4_factor_6 : decode cX4_factor 6 = .ok (.bipush 97, 2) := by decide +kernel
theorem dX4_factor_8 : decode cX4_factor 8 = .ok (.if_icmp .lt 18, 3) := by decide +kernel
theorem dX4_factor_11 : decode cX4_factor 11 = .ok (.iload_n 3, 1) := by decide +kernel
theorem dX4_factor_12 : decode cX4_factor 12 = .ok (.bipush 100, 2) := by decide +kernel
theorem dX4_factor_14 : decode cX4_factor 14 = .ok (.if_icmp .gt 12, 3) := by decide +kernel
theorem dX4_factor_17 : decode cX4_factor 17 = .ok (.aload_n 0, 1) := by decide +kernel
theorem dX4_factor_18 : decode cX4_factor 18 = .ok (.aload_n 1, 1) := by decide +kernel
theorem dX4_factor_19 : decode cX4_factor 19 = .ok (.iload_n 3, 1) := by decide +kernel
theorem dX4_factor_20 : decode cX4_factor 20 = .ok (.invokevirtual 52, 3) := by decide +kernel
theorem dX4_factor_23 : decode cX4_factor 23 = .ok (.goto 98, 3) := by decide +kernel
theorem dX4_factor_26 : decode cX4_factor 26 = .ok (.iload_n 3, 1) := by decide +kernel
theorem dX4_factor_27 : decode cX4_factor 27 = .ok (.bipush 109, 2) := by decide +kernel
theorem dX4_factor_29 : decode cX4_factor 29 = .ok (.if_icmp .ne 12, 3) := by decide +kernel
theorem dX4_factor_32 : decode cX4_factor 32 = .ok (.aload_n 0, 1) := by decide +kernel
theorem dX4_factor_33 : decode cX4_factor 33 = .ok (.aload_n 1, 1) := by decide +kernel
theorem dX4_factor_34 : decode cX4_factor 34 = .ok (.iload_n 2, 1) := by decide +kernel
theorem dX4_factor_35 : decode cX4_factor 35 = .ok (.invokevirtual 55, 3) := by decide +kernel
theorem dX4_factor_38 : decode cX4_factor 38 = .ok (.goto 83, 3) := by decide +kernel
theorem dX4_factor_41 : decode cX4_factor 41 = .ok (.iload_n 3, 1) := by decide +kernel
theorem dX4_factor_42 : decode cX4_factor 42 = .ok (.bipush 40, 2) := by decide +kernel
theorem dX4_factor_44 : decode cX4_factor 44 = .ok (.if_icmp .ne 29, 3) := by decide +kernel
theorem dX4_factor_47 : decode cX4_factor 47 = .ok (.aload_n 1, 1) := by decide +kernel
theorem dX4_factor_48 : decode cX4_factor 48 = .ok (.iload_n 3, 1) := by decide +kernel
theorem dX4_factor_49 : decode cX4_factor 49 = .ok (.iload_n 2, 1) := by decide +kernel
theorem dX4_factor_50 : decode cX4_factor 50 = .ok (.invokestatic 58, 3) := by decide +kernel
theorem dX4_factor_53 : decode cX4_factor 53 = .ok (.ifCond .eq 68, 3) := by decide +kernel
theorem dX4_factor_56 : decode cX4_factor 56 = .ok (.aload_n 0, 1) := by decide +kernel
theorem dX4_factor_57 : decode cX4_factor 57 = .ok (.aload_n 1, 1) := by decide +kernel
theorem dX4_factor_58 : decode cX4_factor 58 = .ok (.iload_n 2, 1) := by decide +kernel
theorem dX4_factor_59 : decode cX4_factor 59 = .ok (.iconst 1, 1) := by decide +kernel
theorem dX4_factor_60 : decode cX4_factor 60 = .ok (.iadd, 1) := by decide +kernel
theorem dX4_factor_61 : decode cX4_factor 61 = .ok (.invokevirtual 27, 3) := by decide +kernel
theorem dX4_factor_64 : decode cX4_factor 64 = .ok (.aload_n 1, 1) := by decide +kernel
theorem dX4_factor_65 : decode cX4_factor 65 = .ok (.bipush 41, 2) := by decide +kernel
theorem dX4_factor_67 : decode cX4_factor 67 = .ok (.invokevirtual 62, 3) := by decide +kernel
theorem dX4_factor_70 : decode cX4_factor 70 = .ok (.goto 51, 3) := by decide +kernel
theorem dX4_factor_73 : decode cX4_factor 73 = .ok (.iload_n 3, 1) := by decide +kernel
theorem dX4_factor_74 : decode cX4_factor 74 = .ok (.bipush 45, 2) := by decide +kernel
theorem dX4_factor_76 : decode cX4_factor 76 = .ok (.if_icmp .ne 33, 3) := by decide +kernel
theorem dX4_factor_79 : decode cX4_factor 79 = .ok (.aload_n 1, 1) := by decide +kernel
theorem dX4_factor_80 : decode cX4_factor 80 = .ok (.iload_n 3, 1) := by decide +kernel
theorem dX4_factor_81 : decode cX4_factor 81 = .ok (.iload_n 2, 1) := by decide +kernel
theorem dX4_factor_82 : decode cX4_factor 82 = .ok (.invokestatic 58, 3) := by decide +kernel
theorem dX4_factor_85 : decode cX4_factor 85 = .ok (.ifCond .eq 36, 3) := by decide +kernel
theorem dX4_factor_88 : decode cX4_factor 88 = .ok (.aload_n 0, 1) := by decide +kernel
theorem dX4_factor_89 : decode cX4_factor 89 = .ok (.aload_n 1, 1) := by decide +kernel
theorem dX4_factor_90 : decode cX4_factor 90 = .ok (.iload_n 2, 1) := by decide +kernel
theorem dX4_factor_91 : decode cX4_factor 91 = .ok (.iconst 1, 1) := by decide +kernel
theorem dX4_factor_92 : decode cX4_factor 92 = .ok (.iadd, 1) := by decide +kernel
theorem dX4_factor_93 : decode cX4_factor 93 = .ok (.invokevirtual 49, 3) := by decide +kernel
theorem dX4_factor_96 : decode cX4_factor 96 = .ok (.aload_n 0, 1) := by decide +kernel
theorem dX4_factor_97 : decode cX4_factor 97 = .ok (.getfield 12, 3) := by decide +kernel
theorem dX4_factor_100 : decode cX4_factor 100 = .ok (.bipush 7, 2) := by decide +kernel
theorem dX4_factor_102 : decode cX4_factor 102 = .ok (.iconst 0, 1) := by decide +kernel
theorem dX4_factor_103 : decode cX4_factor 103 = .ok (.invokevirtual 45, 3) := by decide +kernel
theorem dX4_factor_106 : decode cX4_factor 106 = .ok (.goto 15, 3) := by decide +kernel
theorem dX4_factor_109 : decode cX4_factor 109 = .ok (.aload_n 0, 1) := by decide +kernel
theorem dX4_factor_110 : decode cX4_factor 110 = .ok (.getfield 12, 3) := by decide +kernel
theorem dX4_factor_113 : decode cX4_factor 113 = .ok (.iconst 0, 1) := by decide +kernel
theorem dX4_factor_114 : decode cX4_factor 114 = .ok (.aload_n 1, 1) := by decide +kernel
theorem dX4_factor_115 : decode cX4_factor 115 = .ok (.invokevirtual 66, 3) := by decide +kernel
theorem dX4_factor_118 : decode cX4_factor 118 = .ok (.invokevirtual 45, 3) := by decide +kernel
theorem dX4_factor_121 : decode cX4_factor 121 = .ok (.return_, 1) := by decide +kernel
theorem dX4_curve_0 : decode cX4_curve 0 = .ok (.aload_n 1, 1) := by decide +kernel
theorem dX4_curve_1 : decode cX4_curve 1 = .ok (.iload_n 2, 1) := by decide +kernel
theorem dX4_curve_2 : decode cX4_curve 2 = .ok (.invokevirtual 62, 3) := by decide +kernel
theorem dX4_curve_5 : decode cX4_curve 5 = .ok (.aload_n 1, 1) := by decide +kernel
theorem dX4_curve_6 : decode cX4_curve 6 = .ok (.bipush 64, 2) := by decide +kernel
theorem dX4_curve_8 : decode cX4_curve 8 = .ok (.invokevirtual 41, 3) := by decide +kernel
theorem dX4_curve_11 : decode cX4_curve 11 = .ok (.ifCond .eq 10, 3) := by decide +kernel
theorem dX4_curve_14 : decode cX4_curve 14 = .ok (.aload_n 1, 1) := by decide +kernel
theorem dX4_curve_15 : decode cX4_curve 15 = .ok (.invokevirtual 66, 3) := by decide +kernel
theorem dX4_curve_18 : decode cX4_curve 18 = .ok (.goto 4, 3) := by decide +kernel
theorem dX4_curve_21 : decode cX4_curve 21 = .ok (.iconst 0, 1) := by decide +kernel
theorem dX4_curve_22 : decode cX4_curve 22 = .ok (.istore_n 3, 1) := by decide +kernel
theorem dX4_curve_23 : decode cX4_curve 23 = .ok (.aload_n 0, 1) := by decide +kernel
theorem dX4_curve_24 : decode cX4_curve 24 = .ok (.getfield 12, 3) := by decide +kernel
theorem dX4_curve_27 : decode cX4_curve 27 = .ok (.iconst 1, 1) := by decide +kernel
theorem dX4_curve_28 : decode cX4_curve 28 = .ok (.iload_n 2, 1) := by decide +kernel
theorem dX4_curve_29 : decode cX4_curve 29 = .ok (.bipush 97, 2) := by decide +kernel
theorem dX4_curve_31 : decode cX4_curve 31 = .ok (.isub, 1) := by decide +kernel
theorem dX4_curve_32 : decode cX4_curve 32 = .ok (.sipush 1000, 3) := by decide +kernel
theorem dX4_curve_35 : decode cX4_curve 35 = .ok (.imul, 1) := by decide +kernel
theorem dX4_curve_36 : decode cX4_curve 36 = .ok (.iload_n 3, 1) := by decide +kernel
theorem dX4_curve_37 : decode cX4_curve 37 = .ok (.iadd, 1) := by decide +kernel
theorem dX4_curve_38 : decode cX4_curve 38 = .ok (.invokevirtual 45, 3) := by decide +kernel
theorem dX4_curve_41 : decode cX4_curve 41 = .ok (.return_, 1) := by decide +kernel
theorem dX4_choice_0 : decode cX4_choice 0 = .ok (.aload_n 1, 1) := by decide +kernel
theorem dX4_choice_1 : decode cX4_choice 1 = .ok (.bipush 109, 2) := by decide +kernel
theorem dX4_choice_3 : decode cX4_choice 3 = .ok (.invokevirtual 62, 3) := by decide +kernel
theorem dX4_choice_6 : decode cX4_choice 6 = .ok (.aload_n 1, 1) := by decide +kernel
theorem dX4_choice_7 : decode cX4_choice 7 = .ok (.bipush 105, 2) := by decide +kernel
theorem dX4_choice_9 : decode cX4_choice 9 = .ok (.invokevirtual 41, 3) := by decide +kernel
theorem dX4_choice_12 : decode cX4_choice 12 = .ok (.istore_n 3, 1) := by decide +kernel
theorem dX4_choice_13 : decode cX4_choice 13 = .ok (.iload_n 3, 1) := by decide +kernel
theorem dX4_choice_14 : decode cX4_choice 14 = .ok (.ifCond .ne 9, 3) := by decide +kernel
theorem dX4_choice_17 : decode cX4_choice 17 = .ok (.aload_n 1, 1) := by decide +kernel
theorem dX4_choice_18 : decode cX4_choice 18 = .ok (.bipush 97, 2) := by decide +kernel
theorem dX4_choice_20 : decode cX4_choice 20 = .ok (.invokevirtual 62, 3) := by decide +kernel
theorem dX4_choice_23 : decode cX4_choice 23 = .ok (.aload_n 1, 1) := by decide +kernel
theorem dX4_choice_24 : decode cX4_choice 24 = .ok (.iload_n 3, 1) := by decide +kernel
theorem dX4_choice_25 : decode cX4_choice 25 = .ok (.ifCond .eq 8, 3) := by decide +kernel
theorem dX4_choice_28 : decode cX4_choice 28 = .ok (.bipush 110, 2) := by decide +kernel
theorem dX4_choice_30 : decode cX4_choice 30 = .ok (.goto 5, 3) := by decide +kernel
theorem dX4_choice_33 : decode cX4_choice 33 = .ok (.bipush 120, 2) := by decide +kernel
theorem dX4_choice_35 : decode cX4_choice 35 = .ok (.invokevirtual 62, 3) := by decide +kernel
theorem dX4_choice_38 : decode cX4_choice 38 = .ok (.aload_n 1, 1) := by decide +kernel
theorem dX4_choice_39 : decode cX4_choice 39 = .ok (.bipush 40, 2) := by decide +kernel
theorem dX4_choice_41 : decode cX4_choice 41 = .ok (.iload_n 2, 1) := by decide +kernel
theorem dX4_choice_42 : decode cX4_choice 42 = .ok (.invokestatic 58, 3) := by decide +kernel
theorem dX4_choice_45 : decode cX4_choice 45 = .ok (.ifCond .eq 49, 3) := by decide +kernel
theorem dX4_choice_48 : decode cX4_choice 48 = .ok (.aload_n 0, 1) := by decide +kernel
theorem dX4_choice_49 : decode cX4_choice 49 = .ok (.aload_n 1, 1) := by decide +kernel
theorem dX4_choice_50 : decode cX4_choice 50 = .ok (.iload_n 2, 1) := by decide +kernel
theorem dX4_choice_51 : decode cX4_choice 51 = .ok (.iconst 1, 1) := by decide +kernel
theorem dX4_choice_52 : decode cX4_choice 52 = .ok (.iadd, 1) := by decide +kernel
theorem dX4_choice_53 : decode cX4_choice 53 = .ok (.invokevirtual 27, 3) := by decide +kernel
theorem dX4_choice_56 : decode cX4_choice 56 = .ok (.aload_n 1, 1) := by decide +kernel
theorem dX4_choice_57 : decode cX4_choice 57 = .ok (.bipush 44, 2) := by decide +kernel
theorem dX4_choice_59 : decode cX4_choice 59 = .ok (.invokevirtual 62, 3) := by decide +kernel
theorem dX4_choice_62 : decode cX4_choice 62 = .ok (.aload_n 0, 1) := by decide +kernel
theorem dX4_choice_63 : decode cX4_choice 63 = .ok (.aload_n 1, 1) := by decide +kernel
theorem dX4_choice_64 : decode cX4_choice 64 = .ok (.iload_n 2, 1) := by decide +kernel
theorem dX4_choice_65 : decode cX4_choice 65 = .ok (.iconst 1, 1) := by decide +kernel
theorem dX4_choice_66 : decode cX4_choice 66 = .ok (.iadd, 1) := by decide +kernel
theorem dX4_choice_67 : decode cX4_choice 67 = .ok (.invokevirtual 27, 3) := by decide +kernel
theorem dX4_choice_70 : decode cX4_choice 70 = .ok (.aload_n 1, 1) := by decide +kernel
theorem dX4_choice_71 : decode cX4_choice 71 = .ok (.bipush 41, 2) := by decide +kernel
theorem dX4_choice_73 : decode cX4_choice 73 = .ok (.invokevirtual 62, 3) := by decide +kernel
theorem dX4_choice_76 : decode cX4_choice 76 = .ok (.aload_n 0, 1) := by decide +kernel
theorem dX4_choice_77 : decode cX4_choice 77 = .ok (.getfield 12, 3) := by decide +kernel
theorem dX4_choice_80 : decode cX4_choice 80 = .ok (.iload_n 3, 1) := by decide +kernel
theorem dX4_choice_81 : decode cX4_choice 81 = .ok (.ifCond .eq 7, 3) := by decide +kernel
theorem dX4_choice_84 : decode cX4_choice 84 = .ok (.iconst 5, 1) := by decide +kernel
theorem dX4_choice_85 : decode cX4_choice 85 = .ok (.goto 5, 3) := by decide +kernel
theorem dX4_choice_88 : decode cX4_choice 88 = .ok (.bipush 6, 2) := by decide +kernel
theorem dX4_choice_90 : decode cX4_choice 90 = .ok (.iconst 0, 1) := by decide +kernel
theorem dX4_choice_91 : decode cX4_choice 91 = .ok (.invokevirtual 45, 3) := by decide +kernel
theorem dX4_choice_94 : decode cX4_choice 94 = .ok (.return_, 1) := by decide +kernel
theorem dX4_opens_0 : decode cX4_opens 0 = .ok (.iload_n 2, 1) := by decide +kernel
theorem dX4_opens_1 : decode cX4_opens 1 = .ok (.bipush 8, 2) := by decide +kernel
theorem dX4_opens_3 : decode cX4_opens 3 = .ok (.if_icmp .ge 13, 3) := by decide +kernel
theorem dX4_opens_6 : decode cX4_opens 6 = .ok (.aload_n 0, 1) := by decide +kernel
theorem dX4_opens_7 : decode cX4_opens 7 = .ok (.iload_n 1, 1) := by decide +kernel
theorem dX4_opens_8 : decode cX4_opens 8 = .ok (.invokevirtual 41, 3) := by decide +kernel
theorem dX4_opens_11 : decode cX4_opens 11 = .ok (.ifCond .eq 5, 3) := by decide +kernel
theorem dX4_opens_14 : decode cX4_opens 14 = .ok (.iconst 1, 1) := by decide +kernel
theorem dX4_opens_15 : decode cX4_opens 15 = .ok (.ireturn, 1) := by decide +kernel
theorem dX4_opens_16 : decode cX4_opens 16 = .ok (.aload_n 0, 1) := by decide +kernel
theorem dX4_opens_17 : decode cX4_opens 17 = .ok (.aload_n 0, 1) := by decide +kernel
theorem dX4_opens_18 : decode cX4_opens 18 = .ok (.getfield 69, 3) := by decide +kernel
theorem dX4_opens_21 : decode cX4_opens 21 = .ok (.invokevirtual 72, 3) := by decide +kernel
theorem dX4_opens_24 : decode cX4_opens 24 = .ok (.iconst 0, 1) := by decide +kernel
theorem dX4_opens_25 : decode cX4_opens 25 = .ok (.ireturn, 1) := by decide +kernel
theorem dX5_init_0 : decode cX5_init 0 = .ok (.aload_n 0, 1) := by decide +kernel
theorem dX5_init_1 : decode cX5_init 1 = .ok (.invokespecial 3, 3) := by decide +kernel
theorem dX5_init_4 : decode cX5_init 4 = .ok (.aload_n 0, 1) := by decide +kernel
theorem dX5_init_5 : decode cX5_init 5 = .ok (.bipush 10, 2) := by decide +kernel
theorem dX5_init_7 : decode cX5_init 7 = .ok (.anewarray 9, 3) := by decide +kernel
theorem dX5_init_10 : decode cX5_init 10 = .ok (.putfield 11, 3) := by decide +kernel
theorem dX5_init_13 : decode cX5_init 13 = .ok (.iconst 0, 1) := by decide +kernel
theorem dX5_init_14 : decode cX5_init 14 = .ok (.istore_n 1, 1) := by decide +kernel
theorem dX5_init_15 : decode cX5_init 15 = .ok (.iload_n 1, 1) := by decide +kernel
theorem dX5_init_16 : decode cX5_init 16 = .ok (.aload_n 0, 1) := by decide +kernel
theorem dX5_init_17 : decode cX5_init 17 = .ok (.getfield 11, 3) := by decide +kernel
theorem dX5_init_20 : decode cX5_init 20 = .ok (.arraylength, 1) := by decide +kernel
theorem dX5_init_21 : decode cX5_init 21 = .ok (.if_icmp .ge 22, 3) := by decide +kernel
theorem dX5_init_24 : decode cX5_init 24 = .ok (.aload_n 0, 1) := by decide +kernel
theorem dX5_init_25 : decode cX5_init 25 = .ok (.getfield 11, 3) := by decide +kernel
theorem dX5_init_28 : decode cX5_init 28 = .ok (.iload_n 1, 1) := by decide +kernel
theorem dX5_init_29 : decode cX5_init 29 = .ok (.new 9, 3) := by decide +kernel
theorem dX5_init_32 : decode cX5_init 32 = .ok (.dup, 1) := by decide +kernel
theorem dX5_init_33 : decode cX5_init 33 = .ok (.invokespecial 17, 3) := by decide +kernel
theorem dX5_init_36 : decode cX5_init 36 = .ok (.aastore, 1) := by decide +kernel
theorem dX5_init_37 : decode cX5_init 37 = .ok (.iinc 1 1, 3) := by decide +kernel
theorem dX5_init_40 : decode cX5_init 40 = .ok (.goto (-25), 3) := by decide +kernel
theorem dX5_init_43 : decode cX5_init 43 = .ok (.return_, 1) := by decide +kernel
theorem dX5_record_0 : decode cX5_record 0 = .ok (.aload_n 0, 1) := by decide +kernel
theorem dX5_record_1 : decode cX5_record 1 = .ok (.getfield 18, 3) := by decide +kernel
theorem dX5_record_4 : decode cX5_record 4 = .ok (.bipush 10, 2) := by decide +kernel
theorem dX5_record_6 : decode cX5_record 6 = .ok (.if_icmp .ne 26, 3) := by decide +kernel
theorem dX5_record_9 : decode cX5_record 9 = .ok (.aload_n 0, 1) := by decide +kernel
theorem dX5_record_10 : decode cX5_record 10 = .ok (.aload_n 0, 1) := by decide +kernel
theorem dX5_record_11 : decode cX5_record 11 = .ok (.getfield 22, 3) := by decide +kernel
theorem dX5_record_14 : decode cX5_record 14 = .ok (.iconst 1, 1) := by decide +kernel
theorem dX5_record_15 : decode cX5_record 15 = .ok (.iadd, 1) := by decide +kernel
theorem dX5_record_16 : decode cX5_record 16 = .ok (.bipush 10, 2) := by decide +kernel
theorem dX5_record_18 : decode cX5_record 18 = .ok (.irem, 1) := by decide +kernel
theorem dX5_record_19 : decode cX5_record 19 = .ok (.putfield 22, 3) := by decide +kernel
theorem dX5_record_22 : decode cX5_record 22 = .ok (.aload_n 0, 1) := by decide +kernel
theorem dX5_record_23 : decode cX5_record 23 = .ok (.dup, 1) := by decide +kernel
theorem dX5_record_24 : decode cX5_record 24 = .ok (.getfield 18, 3) := by decide +kernel
theorem dX5_record_27 : decode cX5_record 27 = .ok (.iconst 1, 1) := by decide +kernel
theorem dX5_record_28 : decode cX5_record 28 = .ok (.isub, 1) := by decide +kernel
theorem dX5_record_29 : decode cX5_record 29 = .ok (.putfield 18, 3) := by decide +kernel
theorem dX5_record_32 : decode cX5_record 32 = .ok (.aload_n 0, 1) := by decide +kernel
theorem dX5_record_33 : decode cX5_record 33 = .ok (.aload_n 0, 1) := by decide +kernel
theorem dX5_record_34 : decode cX5_record 34 = .ok (.getfield 22, 3) := by decide +kernel
theorem dX5_record_37 : decode cX5_record 37 = .ok (.aload_n 0, 1) := by decide +kernel
theorem dX5_record_38 : decode cX5_record 38 = .ok (.getfield 18, 3) := by decide +kernel
theorem dX5_record_41 : decode cX5_record 41 = .ok (.iadd, 1) := by decide +kernel
theorem dX5_record_42 : decode cX5_record 42 = .ok (.bipush 10, 2) := by decide +kernel
theorem dX5_record_44 : decode cX5_record 44 = .ok (.irem, 1) := by decide +kernel
theorem dX5_record_45 : decode cX5_record 45 = .ok (.invokevirtual 25, 3) := by decide +kernel
theorem dX5_record_48 : decode cX5_record 48 = .ok (.astore_n 2, 1) := by decide +kernel
theorem dX5_record_49 : decode cX5_record 49 = .ok (.aload_n 2, 1) := by decide +kernel
theorem dX5_record_50 : decode cX5_record 50 = .ok (.ifnull 8, 3) := by decide +kernel
theorem dX5_record_53 : decode cX5_record 53 = .ok (.aload_n 2, 1) := by decide +kernel
theorem dX5_record_54 : decode cX5_record 54 = .ok (.aload_n 1, 1) := by decide +kernel
theorem dX5_record_55 : decode cX5_record 55 = .ok (.invokevirtual 29, 3) := by decide +kernel
theorem dX5_record_58 : decode cX5_record 58 = .ok (.aload_n 0, 1) := by decide +kernel
theorem dX5_record_59 : decode cX5_record 59 = .ok (.dup, 1) := by decide +kernel
theorem dX5_record_60 : decode cX5_record 60 = .ok (.getfield 18, 3) := by decide +kernel
theorem dX5_record_63 : decode cX5_record 63 = .ok (.iconst 1, 1) := by decide +kernel
theorem dX5_record_64 : decode cX5_record 64 = .ok (.iadd, 1) := by decide +kernel
theorem dX5_record_65 : decode cX5_record 65 = .ok (.putfield 18, 3) := by decide +kernel
theorem dX5_record_68 : decode cX5_record 68 = .ok (.return_, 1) := by decide +kernel
theorem dX5_restore_0 : decode cX5_restore 0 = .ok (.aload_n 0, 1) := by decide +kernel
theorem dX5_restore_1 : decode cX5_restore 1 = .ok (.getfield 18, 3) := by decide +kernel
theorem dX5_restore_4 : decode cX5_restore 4 = .ok (.ifCond .ne 6, 3) := by decide +kernel
theorem dX5_restore_7 : decode cX5_restore 7 = .ok (.ldc 33, 2) := by decide +kernel
theorem dX5_restore_9 : decode cX5_restore 9 = .ok (.ireturn, 1) := by decide +kernel
theorem dX5_restore_10 : decode cX5_restore 10 = .ok (.aload_n 0, 1) := by decide +kernel
theorem dX5_restore_11 : decode cX5_restore 11 = .ok (.dup, 1) := by decide +kernel
theorem dX5_restore_12 : decode cX5_restore 12 = .ok (.getfield 18, 3) := by decide +kernel
theorem dX5_restore_15 : decode cX5_restore 15 = .ok (.iconst 1, 1) := by decide +kernel
theorem dX5_restore_16 : decode cX5_restore 16 = .ok (.isub, 1) := by decide +kernel
theorem dX5_restore_17 : decode cX5_restore 17 = .ok (.putfield 18, 3) := by decide +kernel
theorem dX5_restore_20 : decode cX5_restore 20 = .ok (.aload_n 0, 1) := by decide +kernel
theorem dX5_restore_21 : decode cX5_restore 21 = .ok (.aload_n 0, 1) := by decide +kernel
theorem dX5_restore_22 : decode cX5_restore 22 = .ok (.getfield 22, 3) := by decide +kernel
theorem dX5_restore_25 : decode cX5_restore 25 = .ok (.aload_n 0, 1) := by decide +kernel
theorem dX5_restore_26 : decode cX5_restore 26 = .ok (.getfield 18, 3) := by decide +kernel
theorem dX5_restore_29 : decode cX5_restore 29 = .ok (.iadd, 1) := by decide +kernel
theorem dX5_restore_30 : decode cX5_restore 30 = .ok (.bipush 10, 2) := by decide +kernel
theorem dX5_restore_32 : decode cX5_restore 32 = .ok (.irem, 1) := by decide +kernel
theorem dX5_restore_33 : decode cX5_restore 33 = .ok (.invokevirtual 25, 3) := by decide +kernel
theorem dX5_restore_36 : decode cX5_restore 36 = .ok (.astore_n 2, 1) := by decide +kernel
theorem dX5_restore_37 : decode cX5_restore 37 = .ok (.aload_n 2, 1) := by decide +kernel
theorem dX5_restore_38 : decode cX5_restore 38 = .ok (.ifnull 8, 3) := by decide +kernel
theorem dX5_restore_41 : decode cX5_restore 41 = .ok (.aload_n 1, 1) := by decide +kernel
theorem dX5_restore_42 : decode cX5_restore 42 = .ok (.aload_n 2, 1) := by decide +kernel
theorem dX5_restore_43 : decode cX5_restore 43 = .ok (.invokevirtual 29, 3) := by decide +kernel
theorem dX5_restore_46 : decode cX5_restore 46 = .ok (.aload_n 0, 1) := by decide +kernel
theorem dX5_restore_47 : decode cX5_restore 47 = .ok (.getfield 18, 3) := by decide +kernel
theorem dX5_restore_50 : decode cX5_restore 50 = .ok (.ireturn, 1) := by decide +kernel
theorem dX5_stateAt_0 : decode cX5_stateAt 0 = .ok (.iload_n 1, 1) := by decide +kernel
theorem dX5_stateAt_1 : decode cX5_stateAt 1 = .ok (.ifCond .lt 21, 3) := by decide +kernel
theorem dX5_stateAt_4 : decode cX5_stateAt 4 = .ok (.iload_n 1, 1) := by decide +kernel
theorem dX5_stateAt_5 : decode cX5_stateAt 5 = .ok (.aload_n 0, 1) := by decide +kernel
theorem dX5_stateAt_6 : decode cX5_stateAt 6 = .ok (.getfield 11, 3) := by decide +kernel
theorem dX5_stateAt_9 : decode cX5_stateAt 9 = .ok (.arraylength, 1) := by decide +kernel
theorem dX5_stateAt_10 : decode cX5_stateAt 10 = .ok (.if_icmp .ge 12, 3) := by decide +kernel
theorem dX5_stateAt_13 : decode cX5_stateAt 13 = .ok (.aload_n 0, 1) := by decide +kernel
theorem dX5_stateAt_14 : decode cX5_stateAt 14 = .ok (.getfield 11, 3) := by decide +kernel
theorem dX5_stateAt_17 : decode cX5_stateAt 17 = .ok (.iload_n 1, 1) := by decide +kernel
theorem dX5_stateAt_18 : decode cX5_stateAt 18 = .ok (.aaload, 1) := by decide +kernel
theorem dX5_stateAt_19 : decode cX5_stateAt 19 = .ok (.goto 4, 3) := by decide +kernel
theorem dX5_stateAt_22 : decode cX5_stateAt 22 = .ok (.aconst_null, 1) := by decide +kernel
theorem dX5_stateAt_23 : decode cX5_stateAt 23 = .ok (.areturn, 1) := by decide +kernel
theorem dX6_init_0 : decode cX6_init 0 = .ok (.aload_n 0, 1) := by decide +kernel
theorem dX6_init_1 : decode cX6_init 1 = .ok (.invokespecial 3, 3) := by decide +kernel
theorem dX6_init_4 : decode cX6_init 4 = .ok (.aload_n 0, 1) := by decide +kernel
theorem dX6_init_5 : decode cX6_init 5 = .ok (.bipush 120, 2) := by decide +kernel
theorem dX6_init_7 : decode cX6_init 7 = .ok (.newarray .int, 2) := by decide +kernel
theorem dX6_init_9 : decode cX6_init 9 = .ok (.putfield 9, 3) := by decide +kernel
theorem dX6_init_12 : decode cX6_init 12 = .ok (.return_, 1) := by decide +kernel
theorem dX6_run_0 : decode cX6_run 0 = .ok (.aload_n 1, 1) := by decide +kernel
theorem dX6_run_1 : decode cX6_run 1 = .ok (.getfield 15, 3) := by decide +kernel
theorem dX6_run_4 : decode cX6_run 4 = .ok (.astore_n 3, 1) := by decide +kernel
theorem dX6_run_5 : decode cX6_run 5 = .ok (.iconst (-1), 1) := by decide +kernel
theorem dX6_run_6 : decode cX6_run 6 = .ok (.istore 4, 2) := by decide +kernel
theorem dX6_run_8 : decode cX6_run 8 = .ok (.iconst 0, 1) := by decide +kernel
theorem dX6_run_9 : decode cX6_run 9 = .ok (.istore 5, 2) := by decide +kernel
theorem dX6_run_11 : decode cX6_run 11 = .ok (.iload 5, 2) := by decide +kernel
theorem dX6_run_13 : decode cX6_run 13 = .ok (.aload_n 3, 1) := by decide +kernel
theorem dX6_run_14 : decode cX6_run 14 = .ok (.getfield 21, 3) := by decide +kernel
theorem dX6_run_17 : decode cX6_run 17 = .ok (.if_icmp .ge 191, 3) := by decide +kernel
theorem dX6_run_20 : decode cX6_run 20 = .ok (.aload_n 3, 1) := by decide +kernel
theorem dX6_run_21 : decode cX6_run 21 = .ok (.getfield 27, 3) := by decide +kernel
theorem dX6_run_24 : decode cX6_run 24 = .ok (.iload 5, 2) := by decide +kernel
theorem dX6_run_26 : decode cX6_run 26 = .ok (.invokestatic 30, 3) := by decide +kernel
theorem dX6_run_29 : decode cX6_run 29 = .ok (.istore 6, 2) := by decide +kernel
theorem dX6_run_31 : decode cX6_run 31 = .ok (.aload_n 3, 1) := by decide +kernel
theorem dX6_run_32 : decode cX6_run 32 = .ok (.getfield 34, 3) := by decide +kernel
theorem dX6_run_35 : decode cX6_run 35 = .ok (.iload 5, 2) := by decide +kernel
theorem dX6_run_37 : decode cX6_run 37 = .ok (.invokestatic 30, 3) := by decide +kernel
theorem dX6_run_40 : decode cX6_run 40 = .ok (.istore 7, 2) := by decide +kernel
theorem dX6_run_42 : decode cX6_run 42 = .ok (.iload 6, 2) := by decide +kernel
theorem dX6_run_44 : decode cX6_run 44 = .ok (.ifCond .ne 23, 3) := by decide +kernel
theorem dX6_run_47 : decode cX6_run 47 = .ok (.iinc 4 1, 3) := by decide +kernel
theorem dX6_run_50 : decode cX6_run 50 = .ok (.aload_n 0, 1) := by decide +kernel
theorem dX6_run_51 : decode cX6_run 51 = .ok (.getfield 9, 3) := by decide +kernel
theorem dX6_run_54 : decode cX6_run 54 = .ok (.iload 4, 2) := by decide +kernel
theorem dX6_run_56 : decode cX6_run 56 = .ok (.bipush 64, 2) := by decide +kernel
theorem dX6_run_58 : decode cX6_run 58 = .ok (.iload 7, 2) := by decide +kernel
theorem dX6_run_60 : decode cX6_run 60 = .ok (.imul, 1) := by decide +kernel
theorem dX6_run_61 : decode cX6_run 61 = .ok (.invokestatic 37, 3) := by decide +kernel
theorem dX6_run_64 : decode cX6_run 64 = .ok (.goto 138, 3) := by decide +kernel
theorem dX6_run_67 : decode cX6_run 67 = .ok (.iload 6, 2) := by decide +kernel
theorem dX6_run_69 : decode cX6_run 69 = .ok (.iconst 1, 1) := by decide +kernel
theorem dX6_run_70 : decode cX6_run 70 = .ok (.if_icmp .ne 60, 3) := by decide +kernel
theorem dX6_run_73 : decode cX6_run 73 = .ok (.aload_n 1, 1) := by decide +kernel
theorem dX6_run_74 : decode cX6_run 74 = .ok (.iload 7, 2) := by decide +kernel
theorem dX6_run_76 : decode cX6_run 76 = .ok (.sipush 1000, 3) := by decide +kernel
theorem dX6_run_79 : decode cX6_run 79 = .ok (.idiv, 1) := by decide +kernel
theorem dX6_run_80 : decode cX6_run 80 = .ok (.invokevirtual 41, 3) := by decide +kernel
theorem dX6_run_83 : decode cX6_run 83 = .ok (.astore 8, 2) := by decide +kernel
theorem dX6_run_85 : decode cX6_run 85 = .ok (.iconst 0, 1) := by decide +kernel
theorem dX6_run_86 : decode cX6_run 86 = .ok (.iload_n 2, 1) := by decide +kernel
theorem dX6_run_87 : decode cX6_run 87 = .ok (.iload 7, 2) := by decide +kernel
theorem dX6_run_89 : decode cX6_run 89 = .ok (.sipush 1000, 3) := by decide +kernel
theorem dX6_run_92 : decode cX6_run 92 = .ok (.irem, 1) := by decide +kernel
theorem dX6_run_93 : decode cX6_run 93 = .ok (.isub, 1) := by decide +kernel
theorem dX6_run_94 : decode cX6_run 94 = .ok (.invokestatic 45, 3) := by decide +kernel
theorem dX6_run_97 : decode cX6_run 97 = .ok (.istore 9, 2) := by decide +kernel
theorem dX6_run_99 : decode cX6_run 99 = .ok (.iinc 4 1, 3) := by decide +kernel
theorem dX6_run_102 : decode cX6_run 102 = .ok (.aload_n 0, 1) := by decide +kernel
theorem dX6_run_103 : decode cX6_run 103 = .ok (.getfield 9, 3) := by decide +kernel
theorem dX6_run_106 : decode cX6_run 106 = .ok (.iload 4, 2) := by decide +kernel
theorem dX6_run_108 : decode cX6_run 108 = .ok (.aload 8, 2) := by decide +kernel
theorem dX6_run_110 : decode cX6_run 110 = .ok (.ifnonnull 7, 3) := by decide +kernel
theorem dX6_run_113 : decode cX6_run 113 = .ok (.iconst 0, 1) := by decide +kernel
theorem dX6_run_114 : decode cX6_run 114 = .ok (.goto 10, 3) := by decide +kernel
theorem dX6_run_117 : decode cX6_run 117 = .ok (.aload 8, 2) := by decide +kernel
theorem dX6_run_119 : decode cX6_run 119 = .ok (.iload 9, 2) := by decide +kernel
theorem dX6_run_121 : decode cX6_run 121 = .ok (.invokevirtual 51, 3) := by decide +kernel
theorem dX6_run_124 : decode cX6_run 124 = .ok (.invokestatic 37, 3) := by decide +kernel
theorem dX6_run_127 : decode cX6_run 127 = .ok (.goto 75, 3) := by decide +kernel
theorem dX6_run_130 : decode cX6_run 130 = .ok (.iload 6, 2) := by decide +kernel
theorem dX6_run_132 : decode cX6_run 132 = .ok (.bipush 7, 2) := by decide +kernel
theorem dX6_run_134 : decode cX6_run 134 = .ok (.if_icmp .ne 31, 3) := by decide +kernel
theorem dX6_run_137 : decode cX6_run 137 = .ok (.aload_n 0, 1) := by decide +kernel
theorem dX6_run_138 : decode cX6_run 138 = .ok (.getfield 9, 3) := by decide +kernel
theorem dX6_run_141 : decode cX6_run 141 = .ok (.iload 4, 2) := by decide +kernel
theorem dX6_run_143 : decode cX6_run 143 = .ok (.aload_n 0, 1) := by decide +kernel
theorem dX6_run_144 : decode cX6_run 144 = .ok (.getfield 9, 3) := by decide +kernel
theorem dX6_run_147 : decode cX6_run 147 = .ok (.iload 4, 2) := by decide +kernel
theorem dX6_run_149 : decode cX6_run 149 = .ok (.invokestatic 30, 3) := by decide +kernel
theorem dX6_run_152 : decode cX6_run 152 = .ok (.i2l, 1) := by decide +kernel
theorem dX6_run_153 : decode cX6_run 153 = .ok (.lneg, 1) := by decide +kernel
theorem dX6_run_154 : decode cX6_run 154 = .ok (.ldc 57, 2) := by decide +kernel
theorem dX6_run_156 : decode cX6_run 156 = .ok (.invokestatic 58, 3) := by decide +kernel
theorem dX6_run_159 : decode cX6_run 159 = .ok (.invokestatic 37, 3) := by decide +kernel
theorem dX6_run_162 : decode cX6_run 162 = .ok (.goto 40, 3) := by decide +kernel
theorem dX6_run_165 : decode cX6_run 165 = .ok (.iinc 4 (-1), 3) := by decide +kernel
theorem dX6_run_168 : decode cX6_run 168 = .ok (.aload_n 0, 1) := by decide +kernel
theorem dX6_run_169 : decode cX6_run 169 = .ok (.getfield 9, 3) := by decide +kernel
theorem dX6_run_172 : decode cX6_run 172 = .ok (.iload 4, 2) := by decide +kernel
theorem dX6_run_174 : decode cX6_run 174 = .ok (.iload 6, 2) := by decide +kernel
theorem dX6_run_176 : decode cX6_run 176 = .ok (.aload_n 0, 1) := by decide +kernel
theorem dX6_run_177 : decode cX6_run 177 = .ok (.getfield 9, 3) := by decide +kernel
theorem dX6_run_180 : decode cX6_run 180 = .ok (.iload 4, 2) := by decide +kernel
theorem dX6_run_182 : decode cX6_run 182 = .ok (.invokestatic 30, 3) := by decide +kernel
theorem dX6_run_185 : decode cX6_run 185 = .ok (.aload_n 0, 1) := by decide +kernel
theorem dX6_run_186 : decode cX6_run 186 = .ok (.getfield 9, 3) := by decide +kernel
theorem dX6_run_189 : decode cX6_run 189 = .ok (.iload 4, 2) := by decide +kernel
theorem dX6_run_191 : decode cX6_run 191 = .ok (.iconst 1, 1) := by decide +kernel
theorem dX6_run_192 : decode cX6_run 192 = .ok (.iadd, 1) := by decide +kernel
theorem dX6_run_193 : decode cX6_run 193 = .ok (.invokestatic 30, 3) := by decide +kernel
theorem dX6_run_196 : decode cX6_run 196 = .ok (.invokestatic 62, 3) := by decide +kernel
theorem dX6_run_199 : decode cX6_run 199 = .ok (.invokestatic 37, 3) := by decide +kernel
theorem dX6_run_202 : decode cX6_run 202 = .ok (.iinc 5 1, 3) := by decide +kernel
theorem dX6_run_205 : decode cX6_run 205 = .ok (.goto (-194), 3) := by decide +kernel
theorem dX6_run_208 : decode cX6_run 208 = .ok (.aload_n 0, 1) := by decide +kernel
theorem dX6_run_209 : decode cX6_run 209 = .ok (.getfield 9, 3) := by decide +kernel
theorem dX6_run_212 : decode cX6_run 212 = .ok (.iconst 0, 1) := by decide +kernel
theorem dX6_run_213 : decode cX6_run 213 = .ok (.invokestatic 30, 3) := by decide +kernel
theorem dX6_run_216 : decode cX6_run 216 = .ok (.ireturn, 1) := by decide +kernel
theorem dX6_combined_0 : decode cX6_combined 0 = .ok (.iload_n 0, 1) := by decide +kernel
theorem dX6_combined_1 : decode cX6_combined 1 = .ok (.tableswitch 76 2 5 #[31, 42, 53, 70], 31) := by decide +kernel
theorem dX6_combined_32 : decode cX6_combined 32 = .ok (.iload_n 1, 1) := by decide +kernel
theorem dX6_combined_33 : decode cX6_combined 33 = .ok (.i2l, 1) := by decide +kernel
theorem dX6_combined_34 : decode cX6_combined 34 = .ok (.iload_n 2, 1) := by decide +kernel
theorem dX6_combined_35 : decode cX6_combined 35 = .ok (.i2l, 1) := by decide +kernel
theorem dX6_combined_36 : decode cX6_combined 36 = .ok (.ladd, 1) := by decide +kernel
theorem dX6_combined_37 : decode cX6_combined 37 = .ok (.ldc 57, 2) := by decide +kernel
theorem dX6_combined_39 : decode cX6_combined 39 = .ok (.invokestatic 58, 3) := by decide +kernel
theorem dX6_combined_42 : decode cX6_combined 42 = .ok (.ireturn, 1) := by decide +kernel
theorem dX6_combined_43 : decode cX6_combined 43 = .ok (.iload_n 1, 1) := by decide +kernel
theorem dX6_combined_44 : decode cX6_combined 44 = .ok (.i2l, 1) := by decide +kernel
theorem dX6_combined_45 : decode cX6_combined 45 = .ok (.iload_n 2, 1) := by decide +kernel
theorem dX6_combined_46 : decode cX6_combined 46 = .ok (.i2l, 1) := by decide +kernel
theorem dX6_combined_47 : decode cX6_combined 47 = .ok (.lsub, 1) := by decide +kernel
theorem dX6_combined_48 : decode cX6_combined 48 = .ok (.ldc 57, 2) := by decide +kernel
theorem dX6_combined_50 : decode cX6_combined 50 = .ok (.invokestatic 58, 3) := by decide +kernel
theorem dX6_combined_53 : decode cX6_combined 53 = .ok (.ireturn, 1) := by decide +kernel
theorem dX6_combined_54 : decode cX6_combined 54 = .ok (.iload_n 1, 1) := by decide +kernel
theorem dX6_combined_55 : decode cX6_combined 55 = .ok (.i2l, 1) := by decide +kernel
theorem dX6_combined_56 : decode cX6_combined 56 = .ok (.iload_n 2, 1) := by decide +kernel
theorem dX6_combined_57 : decode cX6_combined 57 = .ok (.i2l, 1) := by decide +kernel
theorem dX6_combined_58 : decode cX6_combined 58 = .ok (.lmul, 1) := by decide +kernel
theorem dX6_combined_59 : decode cX6_combined 59 = .ok (.ldc2_w 66, 3) := by decide +kernel
theorem dX6_combined_62 : decode cX6_combined 62 = .ok (.invokestatic 68, 3) := by decide +kernel
theorem dX6_combined_65 : decode cX6_combined 65 = .ok (.ldc 57, 2) := by decide +kernel
theorem dX6_combined_67 : decode cX6_combined 67 = .ok (.invokestatic 58, 3) := by decide +kernel
theorem dX6_combined_70 : decode cX6_combined 70 = .ok (.ireturn, 1) := by decide +kernel
theorem dX6_combined_71 : decode cX6_combined 71 = .ok (.iload_n 1, 1) := by decide +kernel
theorem dX6_combined_72 : decode cX6_combined 72 = .ok (.iload_n 2, 1) := by decide +kernel
theorem dX6_combined_73 : decode cX6_combined 73 = .ok (.invokestatic 72, 3) := by decide +kernel
theorem dX6_combined_76 : decode cX6_combined 76 = .ok (.ireturn, 1) := by decide +kernel
theorem dX6_combined_77 : decode cX6_combined 77 = .ok (.iload_n 1, 1) := by decide +kernel
theorem dX6_combined_78 : decode cX6_combined 78 = .ok (.iload_n 2, 1) := by decide +kernel
theorem dX6_combined_79 : decode cX6_combined 79 = .ok (.invokestatic 45, 3) := by decide +kernel
theorem dX6_combined_82 : decode cX6_combined 82 = .ok (.ireturn, 1) := by decide +kernel
theorem dX7_init_0 : decode cX7_init 0 = .ok (.aload_n 0, 1) := by decide +kernel
theorem dX7_init_1 : decode cX7_init 1 = .ok (.invokespecial 3, 3) := by decide +kernel
theorem dX7_init_4 : decode cX7_init 4 = .ok (.aload_n 0, 1) := by decide +kernel
theorem dX7_init_5 : decode cX7_init 5 = .ok (.bipush 41, 2) := by decide +kernel
theorem dX7_init_7 : decode cX7_init 7 = .ok (.newarray .int, 2) := by decide +kernel
theorem dX7_init_9 : decode cX7_init 9 = .ok (.putfield 9, 3) := by decide +kernel
theorem dX7_init_12 : decode cX7_init 12 = .ok (.aload_n 0, 1) := by decide +kernel
theorem dX7_init_13 : decode cX7_init 13 = .ok (.bipush 41, 2) := by decide +kernel
theorem dX7_init_15 : decode cX7_init 15 = .ok (.newarray .int, 2) := by decide +kernel
theorem dX7_init_17 : decode cX7_init 17 = .ok (.putfield 15, 3) := by decide +kernel
theorem dX7_init_20 : decode cX7_init 20 = .ok (.aload_n 0, 1) := by decide +kernel
theorem dX7_init_21 : decode cX7_init 21 = .ok (.bipush 41, 2) := by decide +kernel
theorem dX7_init_23 : decode cX7_init 23 = .ok (.newarray .int, 2) := by decide +kernel
theorem dX7_init_25 : decode cX7_init 25 = .ok (.putfield 18, 3) := by decide +kernel
theorem dX7_init_28 : decode cX7_init 28 = .ok (.aload_n 0, 1) := by decide +kernel
theorem dX7_init_29 : decode cX7_init 29 = .ok (.bipush 41, 2) := by decide +kernel
theorem dX7_init_31 : decode cX7_init 31 = .ok (.newarray .int, 2) := by decide +kernel
theorem dX7_init_33 : decode cX7_init 33 = .ok (.putfield 21, 3) := by decide +kernel
theorem dX7_init_36 : decode cX7_init 36 = .ok (.return_, 1) := by decide +kernel
theorem dX7_solve_0 : decode cX7_solve 0 = .ok (.aload_n 0, 1) := by decide +kernel
theorem dX7_solve_1 : decode cX7_solve 1 = .ok (.iload_n 3, 1) := by decide +kernel
theorem dX7_solve_2 : decode cX7_solve 2 = .ok (.iload_n 2, 1) := by decide +kernel
theorem dX7_solve_3 : decode cX7_solve 3 = .ok (.isub, 1) := by decide +kernel
theorem dX7_solve_4 : decode cX7_solve 4 = .ok (.putfield 24, 3) := by decide +kernel
theorem dX7_solve_7 : decode cX7_solve 7 = .ok (.iconst 0, 1) := by decide +kernel
theorem dX7_solve_8 : decode cX7_solve 8 = .ok (.istore 5, 2) := by decide +kernel
theorem dX7_solve_10 : decode cX7_solve 10 = .ok (.iload 5, 2) := by decide +kernel
theorem dX7_solve_12 : decode cX7_solve 12 = .ok (.aload_n 0, 1) := by decide +kernel
theorem dX7_solve_13 : decode cX7_solve 13 = .ok (.getfield 24, 3) := by decide +kernel
theorem dX7_solve_16 : decode cX7_solve 16 = .ok (.if_icmp .gt 26, 3) := by decide +kernel
theorem dX7_solve_19 : decode cX7_solve 19 = .ok (.aload_n 0, 1) := by decide +kernel
theorem dX7_solve_20 : decode cX7_solve 20 = .ok (.getfield 9, 3) := by decide +kernel
theorem dX7_solve_23 : decode cX7_solve 23 = .ok (.iload 5, 2) := by decide +kernel
theorem dX7_solve_25 : decode cX7_solve 25 = .ok (.aload_n 1, 1) := by decide +kernel
theorem dX7_solve_26 : decode cX7_solve 26 = .ok (.iload_n 2, 1) := by decide +kernel
theorem dX7_solve_27 : decode cX7_solve 27 = .ok (.iload 5, 2) := by decide +kernel
theorem dX7_solve_29 : decode cX7_solve 29 = .ok (.iadd, 1) := by decide +kernel
theorem dX7_solve_30 : decode cX7_solve 30 = .ok (.invokevirtual 28, 3) := by decide +kernel
theorem dX7_solve_33 : decode cX7_solve 33 = .ok (.invokestatic 34, 3) := by decide +kernel
theorem dX7_solve_36 : decode cX7_solve 36 = .ok (.iinc 5 1, 3) := by decide +kernel
theorem dX7_solve_39 : decode cX7_solve 39 = .ok (.goto (-29), 3) := by decide +kernel
theorem dX7_solve_42 : decode cX7_solve 42 = .ok (.aload_n 0, 1) := by decide +kernel
theorem dX7_solve_43 : decode cX7_solve 43 = .ok (.getfield 15, 3) := by decide +kernel
theorem dX7_solve_46 : decode cX7_solve 46 = .ok (.aload_n 0, 1) := by decide +kernel
theorem dX7_solve_47 : decode cX7_solve 47 = .ok (.getfield 24, 3) := by decide +kernel
theorem dX7_solve_50 : decode cX7_solve 50 = .ok (.iconst 1, 1) := by decide +kernel
theorem dX7_solve_51 : decode cX7_solve 51 = .ok (.invokestatic 34, 3) := by decide +kernel
theorem dX7_solve_54 : decode cX7_solve 54 = .ok (.aload_n 0, 1) := by decide +kernel
theorem dX7_solve_55 : decode cX7_solve 55 = .ok (.getfield 18, 3) := by decide +kernel
theorem dX7_solve_58 : decode cX7_solve 58 = .ok (.aload_n 0, 1) := by decide +kernel
theorem dX7_solve_59 : decode cX7_solve 59 = .ok (.getfield 24, 3) := by decide +kernel
theorem dX7_solve_62 : decode cX7_solve 62 = .ok (.iconst 0, 1) := by decide +kernel
theorem dX7_solve_63 : decode cX7_solve 63 = .ok (.invokestatic 34, 3) := by decide +kernel
theorem dX7_solve_66 : decode cX7_solve 66 = .ok (.aload_n 0, 1) := by decide +kernel
theorem dX7_solve_67 : decode cX7_solve 67 = .ok (.getfield 24, 3) := by decide +kernel
theorem dX7_solve_70 : decode cX7_solve 70 = .ok (.iconst 1, 1) := by decide +kernel
theorem dX7_solve_71 : decode cX7_solve 71 = .ok (.isub, 1) := by decide +kernel
theorem dX7_solve_72 : decode cX7_solve 72 = .ok (.istore 5, 2) := by decide +kernel
theorem dX7_solve_74 : decode cX7_solve 74 = .ok (.iload 5, 2) := by decide +kernel
theorem dX7_solve_76 : decode cX7_solve 76 = .ok (.ifCond .lt 17, 3) := by decide +kernel
theorem dX7_solve_79 : decode cX7_solve 79 = .ok (.aload_n 0, 1) := by decide +kernel
theorem dX7_solve_80 : decode cX7_solve 80 = .ok (.iload 5, 2) := by decide +kernel
theorem dX7_solve_82 : decode cX7_solve 82 = .ok (.iload 4, 2) := by decide +kernel
theorem dX7_solve_84 : decode cX7_solve 84 = .ok (.invokevirtual 38, 3) := by decide +kernel
theorem dX7_solve_87 : decode cX7_solve 87 = .ok (.iinc 5 (-1), 3) := by decide +kernel
theorem dX7_solve_90 : decode cX7_solve 90 = .ok (.goto (-16), 3) := by decide +kernel
theorem dX7_solve_93 : decode cX7_solve 93 = .ok (.return_, 1) := by decide +kernel
theorem dX7_chooseNext_0 : decode cX7_chooseNext 0 = .ok (.ldc 44, 2) := by decide +kernel
theorem dX7_chooseNext_2 : decode cX7_chooseNext 2 = .ok (.istore_n 3, 1) := by decide +kernel
theorem dX7_chooseNext_3 : decode cX7_chooseNext 3 = .ok (.ldc 44, 2) := by decide +kernel
theorem dX7_chooseNext_5 : decode cX7_chooseNext 5 = .ok (.istore 4, 2) := by decide +kernel
theorem dX7_chooseNext_7 : decode cX7_chooseNext 7 = .ok (.iload_n 1, 1) := by decide +kernel
theorem dX7_chooseNext_8 : decode cX7_chooseNext 8 = .ok (.iconst 1, 1) := by decide +kernel
theorem dX7_chooseNext_9 : decode cX7_chooseNext 9 = .ok (.iadd, 1) := by decide +kernel
theorem dX7_chooseNext_10 : decode cX7_chooseNext 10 = .ok (.istore 5, 2) := by decide +kernel
theorem dX7_chooseNext_12 : decode cX7_chooseNext 12 = .ok (.iload 5, 2) := by decide +kernel
theorem dX7_chooseNext_14 : decode cX7_chooseNext 14 = .ok (.aload_n 0, 1) := by decide +kernel
theorem dX7_chooseNext_15 : decode cX7_chooseNext 15 = .ok (.getfield 24, 3) := by decide +kernel
theorem dX7_chooseNext_18 : decode cX7_chooseNext 18 = .ok (.if_icmp .gt 91, 3) := by decide +kernel
theorem dX7_chooseNext_21 : decode cX7_chooseNext 21 = .ok (.aload_n 0, 1) := by decide +kernel
theorem dX7_chooseNext_22 : decode cX7_chooseNext 22 = .ok (.getfield 15, 3) := by decide +kernel
theorem dX7_chooseNext_25 : decode cX7_chooseNext 25 = .ok (.iload 5, 2) := by decide +kernel
theorem dX7_chooseNext_27 : decode cX7_chooseNext 27 = .ok (.invokestatic 45, 3) := by decide +kernel
theorem dX7_chooseNext_30 : decode cX7_chooseNext 30 = .ok (.iconst 1, 1) := by decide +kernel
theorem dX7_chooseNext_31 : decode cX7_chooseNext 31 = .ok (.iadd, 1) := by decide +kernel
theorem dX7_chooseNext_32 : decode cX7_chooseNext 32 = .ok (.istore 6, 2) := by decide +kernel
theorem dX7_chooseNext_34 : decode cX7_chooseNext 34 = .ok (.iload 6, 2) := by decide +kernel
theorem dX7_chooseNext_36 : decode cX7_chooseNext 36 = .ok (.iload_n 3, 1) := by decide +kernel
theorem dX7_chooseNext_37 : decode cX7_chooseNext 37 = .ok (.if_icmp .le 7, 3) := by decide +kernel
theorem dX7_chooseNext_40 : decode cX7_chooseNext 40 = .ok (.iconst (-1), 1) := by decide +kernel
theorem dX7_chooseNext_41 : decode cX7_chooseNext 41 = .ok (.goto 11, 3) := by decide +kernel
theorem dX7_chooseNext_44 : decode cX7_chooseNext 44 = .ok (.aload_n 0, 1) := by decide +kernel
theorem dX7_chooseNext_45 : decode cX7_chooseNext 45 = .ok (.iload_n 1, 1) := by decide +kernel
theorem dX7_chooseNext_46 : decode cX7_chooseNext 46 = .ok (.iload 5, 2) := by decide +kernel
theorem dX7_chooseNext_48 : decode cX7_chooseNext 48 = .ok (.iload_n 2, 1) := by decide +kernel
theorem dX7_chooseNext_49 : decode cX7_chooseNext 49 = .ok (.invokevirtual 49, 3) := by decide +kernel
theorem dX7_chooseNext_52 : decode cX7_chooseNext 52 = .ok (.istore 7, 2) := by decide +kernel
theorem dX7_chooseNext_54 : decode cX7_chooseNext 54 = .ok (.aload_n 0, 1) := by decide +kernel
theorem dX7_chooseNext_55 : decode cX7_chooseNext 55 = .ok (.getfield 18, 3) := by decide +kernel
theorem dX7_chooseNext_58 : decode cX7_chooseNext 58 = .ok (.iload 5, 2) := by decide +kernel
theorem dX7_chooseNext_60 : decode cX7_chooseNext 60 = .ok (.invokestatic 45, 3) := by decide +kernel
theorem dX7_chooseNext_63 : decode cX7_chooseNext 63 = .ok (.iload 7, 2) := by decide +kernel
theorem dX7_chooseNext_65 : decode cX7_chooseNext 65 = .ok (.iadd, 1) := by decide +kernel
theorem dX7_chooseNext_66 : decode cX7_chooseNext 66 = .ok (.istore 8, 2) := by decide +kernel
theorem dX7_chooseNext_68 : decode cX7_chooseNext 68 = .ok (.iload 7, 2) := by decide +kernel
theorem dX7_chooseNext_70 : decode cX7_chooseNext 70 = .ok (.ifCond .lt 33, 3) := by decide +kernel
theorem dX7_chooseNext_73 : decode cX7_chooseNext 73 = .ok (.iload 6, 2) := by decide +kernel
theorem dX7_chooseNext_75 : decode cX7_chooseNext 75 = .ok (.iload_n 3, 1) := by decide +kernel
theorem dX7_chooseNext_76 : decode cX7_chooseNext 76 = .ok (.if_icmp .lt 10, 3) := by decide +kernel
theorem dX7_chooseNext_79 : decode cX7_chooseNext 79 = .ok (.iload 8, 2) := by decide +kernel
theorem dX7_chooseNext_81 : decode cX7_chooseNext 81 = .ok (.iload 4, 2) := by decide +kernel
theorem dX7_chooseNext_83 : decode cX7_chooseNext 83 = .ok (.if_icmp .ge 20, 3) := by decide +kernel
theorem dX7_chooseNext_86 : decode cX7_chooseNext 86 = .ok (.iload 6, 2) := by decide +kernel
theorem dX7_chooseNext_88 : decode cX7_chooseNext 88 = .ok (.istore_n 3, 1) := by decide +kernel
theorem dX7_chooseNext_89 : decode cX7_chooseNext 89 = .ok (.iload 8, 2) := by decide +kernel
theorem dX7_chooseNext_91 : decode cX7_chooseNext 91 = .ok (.istore 4, 2) := by decide +kernel
theorem dX7_chooseNext_93 : decode cX7_chooseNext 93 = .ok (.aload_n 0, 1) := by decide +kernel
theorem dX7_chooseNext_94 : decode cX7_chooseNext 94 = .ok (.getfield 21, 3) := by decide +kernel
theorem dX7_chooseNext_97 : decode cX7_chooseNext 97 = .ok (.iload_n 1, 1) := by decide +kernel
theorem dX7_chooseNext_98 : decode cX7_chooseNext 98 = .ok (.iload 5, 2) := by decide +kernel
theorem dX7_chooseNext_100 : decode cX7_chooseNext 100 = .ok (.invokestatic 34, 3) := by decide +kernel
theorem dX7_chooseNext_103 : decode cX7_chooseNext 103 = .ok (.iinc 5 1, 3) := by decide +kernel
theorem dX7_chooseNext_106 : decode cX7_chooseNext 106 = .ok (.goto (-94), 3) := by decide +kernel
theorem dX7_chooseNext_109 : decode cX7_chooseNext 109 = .ok (.aload_n 0, 1) := by decide +kernel
theorem dX7_chooseNext_110 : decode cX7_chooseNext 110 = .ok (.getfield 15, 3) := by decide +kernel
theorem dX7_chooseNext_113 : decode cX7_chooseNext 113 = .ok (.iload_n 1, 1) := by decide +kernel
theorem dX7_chooseNext_114 : decode cX7_chooseNext 114 = .ok (.iload_n 3, 1) := by decide +kernel
theorem dX7_chooseNext_115 : decode cX7_chooseNext 115 = .ok (.invokestatic 34, 3) := by decide +kernel
theorem dX7_chooseNext_118 : decode cX7_chooseNext 118 = .ok (.aload_n 0, 1) := by decide +kernel
theorem dX7_chooseNext_119 : decode cX7_chooseNext 119 = .ok (.getfield 18, 3) := by decide +kernel
theorem dX7_chooseNext_122 : decode cX7_chooseNext 122 = .ok (.iload_n 1, 1) := by decide +kernel
theorem dX7_chooseNext_123 : decode cX7_chooseNext 123 = .ok (.iload 4, 2) := by decide +kernel
theorem dX7_chooseNext_125 : decode cX7_chooseNext 125 = .ok (.invokestatic 34, 3) := by decide +kernel
theorem dX7_chooseNext_128 : decode cX7_chooseNext 128 = .ok (.return_, 1) := by decide +kernel
theorem dX7_misfit_0 : decode cX7_misfit 0 = .ok (.aload_n 0, 1) := by decide +kernel
theorem dX7_misfit_1 : decode cX7_misfit 1 = .ok (.getfield 9, 3) := by decide +kernel
theorem dX7_misfit_4 : decode cX7_misfit 4 = .ok (.iload_n 1, 1) := by decide +kernel
theorem dX7_misfit_5 : decode cX7_misfit 5 = .ok (.invokestatic 45, 3) := by decide +kernel
theorem dX7_misfit_8 : decode cX7_misfit 8 = .ok (.i2l, 1) := by decide +kernel
theorem dX7_misfit_9 : decode cX7_misfit 9 = .ok (.lstore 4, 2) := by decide +kernel
theorem dX7_misfit_11 : decode cX7_misfit 11 = .ok (.aload_n 0, 1) := by decide +kernel
theorem dX7_misfit_12 : decode cX7_misfit 12 = .ok (.getfield 9, 3) := by decide +kernel
theorem dX7_misfit_15 : decode cX7_misfit 15 = .ok (.iload_n 2, 1) := by decide +kernel
theorem dX7_misfit_16 : decode cX7_misfit 16 = .ok (.invokestatic 45, 3) := by decide +kernel
theorem dX7_misfit_19 : decode cX7_misfit 19 = .ok (.i2l, 1) := by decide +kernel
theorem dX7_misfit_20 : decode cX7_misfit 20 = .ok (.lload 4, 2) := by decide +kernel
theorem dX7_misfit_22 : decode cX7_misfit 22 = .ok (.lsub, 1) := by decide +kernel
theorem dX7_misfit_23 : decode cX7_misfit 23 = .ok (.lstore 6, 2) := by decide +kernel
theorem dX7_misfit_25 : decode cX7_misfit 25 = .ok (.iconst 0, 1) := by decide +kernel
theorem dX7_misfit_26 : decode cX7_misfit 26 = .ok (.istore 8, 2) := by decide +kernel
theorem dX7_misfit_28 : decode cX7_misfit 28 = .ok (.iload_n 1, 1) := by decide +kernel
theorem dX7_misfit_29 : decode cX7_misfit 29 = .ok (.iconst 1, 1) := by decide +kernel
theorem dX7_misfit_30 : decode cX7_misfit 30 = .ok (.iadd, 1) := by decide +kernel
theorem dX7_misfit_31 : decode cX7_misfit 31 = .ok (.istore 9, 2) := by decide +kernel
theorem dX7_misfit_33 : decode cX7_misfit 33 = .ok (.iload 9, 2) := by decide +kernel
theorem dX7_misfit_35 : decode cX7_misfit 35 = .ok (.iload_n 2, 1) := by decide +kernel
theorem dX7_misfit_36 : decode cX7_misfit 36 = .ok (.if_icmp .ge 61, 3) := by decide +kernel
theorem dX7_misfit_39 : decode cX7_misfit 39 = .ok (.lload 4, 2) := by decide +kernel
theorem dX7_misfit_41 : decode cX7_misfit 41 = .ok (.lload 6, 2) := by decide +kernel
theorem dX7_misfit_43 : decode cX7_misfit 43 = .ok (.iload 9, 2) := by decide +kernel
theorem dX7_misfit_45 : decode cX7_misfit 45 = .ok (.iload_n 1, 1) := by decide +kernel
theorem dX7_misfit_46 : decode cX7_misfit 46 = .ok (.isub, 1) := by decide +kernel
theorem dX7_misfit_47 : decode cX7_misfit 47 = .ok (.i2l, 1) := by decide +kernel
theorem dX7_misfit_48 : decode cX7_misfit 48 = .ok (.lmul, 1) := by decide +kernel
theorem dX7_misfit_49 : decode cX7_misfit 49 = .ok (.iload_n 2, 1) := by decide +kernel
theorem dX7_misfit_50 : decode cX7_misfit 50 = .ok (.iload_n 1, 1) := by decide +kernel
theorem dX7_misfit_51 : decode cX7_misfit 51 = .ok (.isub, 1) := by decide +kernel
theorem dX7_misfit_52 : decode cX7_misfit 52 = .ok (.i2l, 1) := by decide +kernel
theorem dX7_misfit_53 : decode cX7_misfit 53 = .ok (.invokestatic 53, 3) := by decide +kernel
theorem dX7_misfit_56 : decode cX7_misfit 56 = .ok (.ladd, 1) := by decide +kernel
theorem dX7_misfit_57 : decode cX7_misfit 57 = .ok (.aload_n 0, 1) := by decide +kernel
theorem dX7_misfit_58 : decode cX7_misfit 58 = .ok (.getfield 9, 3) := by decide +kernel
theorem dX7_misfit_61 : decode cX7_misfit 61 = .ok (.iload 9, 2) := by decide +kernel
theorem dX7_misfit_63 : decode cX7_misfit 63 = .ok (.invokestatic 45, 3) := by decide +kernel
theorem dX7_misfit_66 : decode cX7_misfit 66 = .ok (.i2l, 1) := by decide +kernel
theorem dX7_misfit_67 : decode cX7_misfit 67 = .ok (.lsub, 1) := by decide +kernel
theorem dX7_misfit_68 : decode cX7_misfit 68 = .ok (.invokestatic 57, 3) := by decide +kernel
theorem dX7_misfit_71 : decode cX7_misfit 71 = .ok (.lstore 10, 2) := by decide +kernel
theorem dX7_misfit_73 : decode cX7_misfit 73 = .ok (.lload 10, 2) := by decide +kernel
theorem dX7_misfit_75 : decode cX7_misfit 75 = .ok (.iload_n 3, 1) := by decide +kernel
theorem dX7_misfit_76 : decode cX7_misfit 76 = .ok (.i2l, 1) := by decide +kernel
theorem dX7_misfit_77 : decode cX7_misfit 77 = .ok (.lcmp, 1) := by decide +kernel
theorem dX7_misfit_78 : decode cX7_misfit 78 = .ok (.ifCond .le 5, 3) := by decide +kernel
theorem dX7_misfit_81 : decode cX7_misfit 81 = .ok (.iconst (-1), 1) := by decide +kernel
theorem dX7_misfit_82 : decode cX7_misfit 82 = .ok (.ireturn, 1) := by decide +kernel
theorem dX7_misfit_83 : decode cX7_misfit 83 = .ok (.iload 8, 2) := by decide +kernel
theorem dX7_misfit_85 : decode cX7_misfit 85 = .ok (.lload 10, 2) := by decide +kernel
theorem dX7_misfit_87 : decode cX7_misfit 87 = .ok (.l2i, 1) := by decide +kernel
theorem dX7_misfit_88 : decode cX7_misfit 88 = .ok (.iadd, 1) := by decide +kernel
theorem dX7_misfit_89 : decode cX7_misfit 89 = .ok (.istore 8, 2) := by decide +kernel
theorem dX7_misfit_91 : decode cX7_misfit 91 = .ok (.iinc 9 1, 3) := by decide +kernel
theorem dX7_misfit_94 : decode cX7_misfit 94 = .ok (.goto (-61), 3) := by decide +kernel
theorem dX7_misfit_97 : decode cX7_misfit 97 = .ok (.iload 8, 2) := by decide +kernel
theorem dX7_misfit_99 : decode cX7_misfit 99 = .ok (.ireturn, 1) := by decide +kernel
theorem dX7_size_0 : decode cX7_size 0 = .ok (.aload_n 0, 1) := by decide +kernel
theorem dX7_size_1 : decode cX7_size 1 = .ok (.getfield 15, 3) := by decide +kernel
theorem dX7_size_4 : decode cX7_size 4 = .ok (.iconst 0, 1) := by decide +kernel
theorem dX7_size_5 : decode cX7_size 5 = .ok (.invokestatic 45, 3) := by decide +kernel
theorem dX7_size_8 : decode cX7_size 8 = .ok (.ireturn, 1) := by decide +kernel
theorem dX7_frameAt_0 : decode cX7_frameAt 0 = .ok (.iload_n 2, 1) := by decide +kernel
theorem dX7_frameAt_1 : decode cX7_frameAt 1 = .ok (.ifCond .lt 11, 3) := by decide +kernel
theorem dX7_frameAt_4 : decode cX7_frameAt 4 = .ok (.iload_n 2, 1) := by decide +kernel
theorem dX7_frameAt_5 : decode cX7_frameAt 5 = .ok (.aload_n 0, 1) := by decide +kernel
theorem dX7_frameAt_6 : decode cX7_frameAt 6 = .ok (.invokevirtual 63, 3) := by decide +kernel
theorem dX7_frameAt_9 : decode cX7_frameAt 9 = .ok (.if_icmp .lt 6, 3) := by decide +kernel
theorem dX7_frameAt_12 : decode cX7_frameAt 12 = .ok (.ldc 67, 2) := by decide +kernel
theorem dX7_frameAt_14 : decode cX7_frameAt 14 = .ok (.ireturn, 1) := by decide +kernel
theorem dX7_frameAt_15 : decode cX7_frameAt 15 = .ok (.iconst 0, 1) := by decide +kernel
theorem dX7_frameAt_16 : decode cX7_frameAt 16 = .ok (.istore_n 3, 1) := by decide +kernel
theorem dX7_frameAt_17 : decode cX7_frameAt 17 = .ok (.iconst 0, 1) := by decide +kernel
theorem dX7_frameAt_18 : decode cX7_frameAt 18 = .ok (.istore 4, 2) := by decide +kernel
theorem dX7_frameAt_20 : decode cX7_frameAt 20 = .ok (.iload 4, 2) := by decide +kernel
theorem dX7_frameAt_22 : decode cX7_frameAt 22 = .ok (.iload_n 2, 1) := by decide +kernel
theorem dX7_frameAt_23 : decode cX7_frameAt 23 = .ok (.if_icmp .ge 18, 3) := by decide +kernel
theorem dX7_frameAt_26 : decode cX7_frameAt 26 = .ok (.aload_n 0, 1) := by decide +kernel
theorem dX7_frameAt_27 : decode cX7_frameAt 27 = .ok (.getfield 21, 3) := by decide +kernel
theorem dX7_frameAt_30 : decode cX7_frameAt 30 = .ok (.iload_n 3, 1) := by decide +kernel
theorem dX7_frameAt_31 : decode cX7_frameAt 31 = .ok (.invokestatic 45, 3) := by decide +kernel
theorem dX7_frameAt_34 : decode cX7_frameAt 34 = .ok (.istore_n 3, 1) := by decide +kernel
theorem dX7_frameAt_35 : decode cX7_frameAt 35 = .ok (.iinc 4 1, 3) := by decide +kernel
theorem dX7_frameAt_38 : decode cX7_frameAt 38 = .ok (.goto (-18), 3) := by decide +kernel
theorem dX7_frameAt_41 : decode cX7_frameAt 41 = .ok (.iload_n 1, 1) := by decide +kernel
theorem dX7_frameAt_42 : decode cX7_frameAt 42 = .ok (.iload_n 3, 1) := by decide +kernel
theorem dX7_frameAt_43 : decode cX7_frameAt 43 = .ok (.iadd, 1) := by decide +kernel
theorem dX7_frameAt_44 : decode cX7_frameAt 44 = .ok (.ireturn, 1) := by decide +kernel
theorem dX8_init_0 : decode cX8_init 0 = .ok (.aload_n 0, 1) := by decide +kernel
theorem dX8_init_1 : decode cX8_init 1 = .ok (.invokespecial 3, 3) := by decide +kernel
theorem dX8_init_4 : decode cX8_init 4 = .ok (.aload_n 0, 1) := by decide +kernel
theorem dX8_init_5 : decode cX8_init 5 = .ok (.new 9, 3) := by decide +kernel
theorem dX8_init_8 : decode cX8_init 8 = .ok (.dup, 1) := by decide +kernel
theorem dX8_init_9 : decode cX8_init 9 = .ok (.invokespecial 11, 3) := by decide +kernel
theorem dX8_init_12 : decode cX8_init 12 = .ok (.putfield 12, 3) := by decide +kernel
theorem dX8_init_15 : decode cX8_init 15 = .ok (.aload_n 0, 1) := by decide +kernel
theorem dX8_init_16 : decode cX8_init 16 = .ok (.new 18, 3) := by decide +kernel
theorem dX8_init_19 : decode cX8_init 19 = .ok (.dup, 1) := by decide +kernel
theorem dX8_init_20 : decode cX8_init 20 = .ok (.invokespecial 20, 3) := by decide +kernel
theorem dX8_init_23 : decode cX8_init 23 = .ok (.putfield 21, 3) := by decide +kernel
theorem dX8_init_26 : decode cX8_init 26 = .ok (.aload_n 0, 1) := by decide +kernel
theorem dX8_init_27 : decode cX8_init 27 = .ok (.iconst 4, 1) := by decide +kernel
theorem dX8_init_28 : decode cX8_init 28 = .ok (.anewarray 25, 3) := by decide +kernel
theorem dX8_init_31 : decode cX8_init 31 = .ok (.putfield 27, 3) := by decide +kernel
theorem dX8_init_34 : decode cX8_init 34 = .ok (.iconst 0, 1) := by decide +kernel
theorem dX8_init_35 : decode cX8_init 35 = .ok (.istore_n 1, 1) := by decide +kernel
theorem dX8_init_36 : decode cX8_init 36 = .ok (.iload_n 1, 1) := by decide +kernel
theorem dX8_init_37 : decode cX8_init 37 = .ok (.aload_n 0, 1) := by decide +kernel
theorem dX8_init_38 : decode cX8_init 38 = .ok (.getfield 27, 3) := by decide +kernel
theorem dX8_init_41 : decode cX8_init 41 = .ok (.arraylength, 1) := by decide +kernel
theorem dX8_init_42 : decode cX8_init 42 = .ok (.if_icmp .ge 22, 3) := by decide +kernel
theorem dX8_init_45 : decode cX8_init 45 = .ok (.aload_n 0, 1) := by decide +kernel
theorem dX8_init_46 : decode cX8_init 46 = .ok (.getfield 27, 3) := by decide +kernel
theorem dX8_init_49 : decode cX8_init 49 = .ok (.iload_n 1, 1) := by decide +kernel
theorem dX8_init_50 : decode cX8_init 50 = .ok (.new 25, 3) := by decide +kernel
theorem dX8_init_53 : decode cX8_init 53 = .ok (.dup, 1) := by decide +kernel
theorem dX8_init_54 : decode cX8_init 54 = .ok (.invokespecial 31, 3) := by decide +kernel
theorem dX8_init_57 : decode cX8_init 57 = .ok (.aastore, 1) := by decide +kernel
theorem dX8_init_58 : decode cX8_init 58 = .ok (.iinc 1 1, 3) := by decide +kernel
theorem dX8_init_61 : decode cX8_init 61 = .ok (.goto (-25), 3) := by decide +kernel
theorem dX8_init_64 : decode cX8_init 64 = .ok (.return_, 1) := by decide +kernel
theorem dX8_curveAt_0 : decode cX8_curveAt 0 = .ok (.iload_n 1, 1) := by decide +kernel
theorem dX8_curveAt_1 : decode cX8_curveAt 1 = .ok (.ifCond .lt 21, 3) := by decide +kernel
theorem dX8_curveAt_4 : decode cX8_curveAt 4 = .ok (.iload_n 1, 1) := by decide +kernel
theorem dX8_curveAt_5 : decode cX8_curveAt 5 = .ok (.aload_n 0, 1) := by decide +kernel
theorem dX8_curveAt_6 : decode cX8_curveAt 6 = .ok (.getfield 27, 3) := by decide +kernel
theorem dX8_curveAt_9 : decode cX8_curveAt 9 = .ok (.arraylength, 1) := by decide +kernel
theorem dX8_curveAt_10 : decode cX8_curveAt 10 = .ok (.if_icmp .ge 12, 3) := by decide +kernel
theorem dX8_curveAt_13 : decode cX8_curveAt 13 = .ok (.aload_n 0, 1) := by decide +kernel
theorem dX8_curveAt_14 : decode cX8_curveAt 14 = .ok (.getfield 27, 3) := by decide +kernel
theorem dX8_curveAt_17 : decode cX8_curveAt 17 = .ok (.iload_n 1, 1) := by decide +kernel
theorem dX8_curveAt_18 : decode cX8_curveAt 18 = .ok (.aaload, 1) := by decide +kernel
theorem dX8_curveAt_19 : decode cX8_curveAt 19 = .ok (.goto 4, 3) := by decide +kernel
theorem dX8_curveAt_22 : decode cX8_curveAt 22 = .ok (.aconst_null, 1) := by decide +kernel
theorem dX8_curveAt_23 : decode cX8_curveAt 23 = .ok (.areturn, 1) := by decide +kernel
theorem dX8_copyAll_0 : decode cX8_copyAll 0 = .ok (.aload_n 0, 1) := by decide +kernel
theorem dX8_copyAll_1 : decode cX8_copyAll 1 = .ok (.getfield 12, 3) := by decide +kernel
theorem dX8_copyAll_4 : decode cX8_copyAll 4 = .ok (.aload_n 1, 1) := by decide +kernel
theorem dX8_copyAll_5 : decode cX8_copyAll 5 = .ok (.getfield 12, 3) := by decide +kernel
theorem dX8_copyAll_8 : decode cX8_copyAll 8 = .ok (.invokevirtual 32, 3) := by decide +kernel
theorem dX8_copyAll_11 : decode cX8_copyAll 11 = .ok (.aload_n 0, 1) := by decide +kernel
theorem dX8_copyAll_12 : decode cX8_copyAll 12 = .ok (.getfield 21, 3) := by decide +kernel
theorem dX8_copyAll_15 : decode cX8_copyAll 15 = .ok (.aload_n 1, 1) := by decide +kernel
theorem dX8_copyAll_16 : decode cX8_copyAll 16 = .ok (.getfield 21, 3) := by decide +kernel
theorem dX8_copyAll_19 : decode cX8_copyAll 19 = .ok (.invokevirtual 36, 3) := by decide +kernel
theorem dX8_copyAll_22 : decode cX8_copyAll 22 = .ok (.iconst 0, 1) := by decide +kernel
theorem dX8_copyAll_23 : decode cX8_copyAll 23 = .ok (.istore_n 2, 1) := by decide +kernel
theorem dX8_copyAll_24 : decode cX8_copyAll 24 = .ok (.iload_n 2, 1) := by decide +kernel
theorem dX8_copyAll_25 : decode cX8_copyAll 25 = .ok (.iconst 4, 1) := by decide +kernel
theorem dX8_copyAll_26 : decode cX8_copyAll 26 = .ok (.if_icmp .ge 37, 3) := by decide +kernel
theorem dX8_copyAll_29 : decode cX8_copyAll 29 = .ok (.aload_n 0, 1) := by decide +kernel
theorem dX8_copyAll_30 : decode cX8_copyAll 30 = .ok (.iload_n 2, 1) := by decide +kernel
theorem dX8_copyAll_31 : decode cX8_copyAll 31 = .ok (.invokevirtual 39, 3) := by decide +kernel
theorem dX8_copyAll_34 : decode cX8_copyAll 34 = .ok (.astore_n 3, 1) := by decide +kernel
theorem dX8_copyAll_35 : decode cX8_copyAll 35 = .ok (.aload_n 1, 1) := by decide +kernel
theorem dX8_copyAll_36 : decode cX8_copyAll 36 = .ok (.iload_n 2, 1) := by decide +kernel
theorem dX8_copyAll_37 : decode cX8_copyAll 37 = .ok (.invokevirtual 39, 3) := by decide +kernel
theorem dX8_copyAll_40 : decode cX8_copyAll 40 = .ok (.astore 4, 2) := by decide +kernel
theorem dX8_copyAll_42 : decode cX8_copyAll 42 = .ok (.aload_n 3, 1) := by decide +kernel
theorem dX8_copyAll_43 : decode cX8_copyAll 43 = .ok (.ifnull 14, 3) := by decide +kernel
theorem dX8_copyAll_46 : decode cX8_copyAll 46 = .ok (.aload 4, 2) := by decide +kernel
theorem dX8_copyAll_48 : decode cX8_copyAll 48 = .ok (.ifnull 9, 3) := by decide +kernel
theorem dX8_copyAll_51 : decode cX8_copyAll 51 = .ok (.aload_n 3, 1) := by decide +kernel
theorem dX8_copyAll_52 : decode cX8_copyAll 52 = .ok (.aload 4, 2) := by decide +kernel
theorem dX8_copyAll_54 : decode cX8_copyAll 54 = .ok (.invokevirtual 43, 3) := by decide +kernel
theorem dX8_copyAll_57 : decode cX8_copyAll 57 = .ok (.iinc 2 1, 3) := by decide +kernel
theorem dX8_copyAll_60 : decode cX8_copyAll 60 = .ok (.goto (-36), 3) := by decide +kernel
theorem dX8_copyAll_63 : decode cX8_copyAll 63 = .ok (.return_, 1) := by decide +kernel
theorem dX9_init_0 : decode cX9_init 0 = .ok (.aload_n 0, 1) := by decide +kernel
theorem dX9_init_1 : decode cX9_init 1 = .ok (.invokespecial 3, 3) := by decide +kernel
theorem dX9_init_4 : decode cX9_init 4 = .ok (.aload_n 0, 1) := by decide +kernel
theorem dX9_init_5 : decode cX9_init 5 = .ok (.iconst (-1), 1) := by decide +kernel
theorem dX9_init_6 : decode cX9_init 6 = .ok (.putfield 11, 3) := by decide +kernel
theorem dX9_init_9 : decode cX9_init 9 = .ok (.aload_n 0, 1) := by decide +kernel
theorem dX9_init_10 : decode cX9_init 10 = .ok (.bipush 120, 2) := by decide +kernel
theorem dX9_init_12 : decode cX9_init 12 = .ok (.newarray .int, 2) := by decide +kernel
theorem dX9_init_14 : decode cX9_init 14 = .ok (.putfield 15, 3) := by decide +kernel
theorem dX9_init_17 : decode cX9_init 17 = .ok (.return_, 1) := by decide +kernel
theorem dX9_add_0 : decode cX9_add 0 = .ok (.aload_n 0, 1) := by decide +kernel
theorem dX9_add_1 : decode cX9_add 1 = .ok (.getfield 15, 3) := by decide +kernel
theorem dX9_add_4 : decode cX9_add 4 = .ok (.aload_n 0, 1) := by decide +kernel
theorem dX9_add_5 : decode cX9_add 5 = .ok (.getfield 19, 3) := by decide +kernel
theorem dX9_add_8 : decode cX9_add 8 = .ok (.iload_n 1, 1) := by decide +kernel
theorem dX9_add_9 : decode cX9_add 9 = .ok (.invokestatic 22, 3) := by decide +kernel
theorem dX9_add_12 : decode cX9_add 12 = .ok (.aload_n 0, 1) := by decide +kernel
theorem dX9_add_13 : decode cX9_add 13 = .ok (.dup, 1) := by decide +kernel
theorem dX9_add_14 : decode cX9_add 14 = .ok (.getfield 19, 3) := by decide +kernel
theorem dX9_add_17 : decode cX9_add 17 = .ok (.iconst 1, 1) := by decide +kernel
theorem dX9_add_18 : decode cX9_add 18 = .ok (.iadd, 1) := by decide +kernel
theorem dX9_add_19 : decode cX9_add 19 = .ok (.putfield 19, 3) := by decide +kernel
theorem dX9_add_22 : decode cX9_add 22 = .ok (.aload_n 0, 1) := by decide +kernel
theorem dX9_add_23 : decode cX9_add 23 = .ok (.getfield 19, 3) := by decide +kernel
theorem dX9_add_26 : decode cX9_add 26 = .ok (.ireturn, 1) := by decide +kernel
theorem dX9_rewind_0 : decode cX9_rewind 0 = .ok (.aload_n 0, 1) := by decide +kernel
theorem dX9_rewind_1 : decode cX9_rewind 1 = .ok (.iconst 0, 1) := by decide +kernel
theorem dX9_rewind_2 : decode cX9_rewind 2 = .ok (.putfield 26, 3) := by decide +kernel
theorem dX9_rewind_5 : decode cX9_rewind 5 = .ok (.aload_n 0, 1) := by decide +kernel
theorem dX9_rewind_6 : decode cX9_rewind 6 = .ok (.iconst (-1), 1) := by decide +kernel
theorem dX9_rewind_7 : decode cX9_rewind 7 = .ok (.putfield 11, 3) := by decide +kernel
theorem dX9_rewind_10 : decode cX9_rewind 10 = .ok (.return_, 1) := by decide +kernel
theorem dX9_peek_0 : decode cX9_peek 0 = .ok (.aload_n 0, 1) := by decide +kernel
theorem dX9_peek_1 : decode cX9_peek 1 = .ok (.getfield 11, 3) := by decide +kernel
theorem dX9_peek_4 : decode cX9_peek 4 = .ok (.iconst (-1), 1) := by decide +kernel
theorem dX9_peek_5 : decode cX9_peek 5 = .ok (.if_icmp .ne 28, 3) := by decide +kernel
theorem dX9_peek_8 : decode cX9_peek 8 = .ok (.aload_n 0, 1) := by decide +kernel
theorem dX9_peek_9 : decode cX9_peek 9 = .ok (.getfield 26, 3) := by decide +kernel
theorem dX9_peek_12 : decode cX9_peek 12 = .ok (.aload_n 0, 1) := by decide +kernel
theorem dX9_peek_13 : decode cX9_peek 13 = .ok (.getfield 19, 3) := by decide +kernel
theorem dX9_peek_16 : decode cX9_peek 16 = .ok (.if_icmp .ge 17, 3) := by decide +kernel
theorem dX9_peek_19 : decode cX9_peek 19 = .ok (.aload_n 0, 1) := by decide +kernel
theorem dX9_peek_20 : decode cX9_peek 20 = .ok (.getfield 15, 3) := by decide +kernel
theorem dX9_peek_23 : decode cX9_peek 23 = .ok (.aload_n 0, 1) := by decide +kernel
theorem dX9_peek_24 : decode cX9_peek 24 = .ok (.getfield 26, 3) := by decide +kernel
theorem dX9_peek_27 : decode cX9_peek 27 = .ok (.invokestatic 29, 3) := by decide +kernel
theorem dX9_peek_30 : decode cX9_peek 30 = .ok (.goto 4, 3) := by decide +kernel
theorem dX9_peek_33 : decode cX9_peek 33 = .ok (.iconst (-1), 1) := by decide +kernel
theorem dX9_peek_34 : decode cX9_peek 34 = .ok (.ireturn, 1) := by decide +kernel
theorem dX9_accept_0 : decode cX9_accept 0 = .ok (.aload_n 0, 1) := by decide +kernel
theorem dX9_accept_1 : decode cX9_accept 1 = .ok (.invokevirtual 33, 3) := by decide +kernel
theorem dX9_accept_4 : decode cX9_accept 4 = .ok (.iload_n 1, 1) := by decide +kernel
theorem dX9_accept_5 : decode cX9_accept 5 = .ok (.if_icmp .eq 5, 3) := by decide +kernel
theorem dX9_accept_8 : decode cX9_accept 8 = .ok (.iconst 0, 1) := by decide +kernel
theorem dX9_accept_9 : decode cX9_accept 9 = .ok (.ireturn, 1) := by decide +kernel
theorem dX9_accept_10 : decode cX9_accept 10 = .ok (.aload_n 0, 1) := by decide +kernel
theorem dX9_accept_11 : decode cX9_accept 11 = .ok (.dup, 1) := by decide +kernel
theorem dX9_accept_12 : decode cX9_accept 12 = .ok (.getfield 26, 3) := by decide +kernel
theorem dX9_accept_15 : decode cX9_accept 15 = .ok (.iconst 1, 1) := by decide +kernel
theorem dX9_accept_16 : decode cX9_accept 16 = .ok (.iadd, 1) := by decide +kernel
theorem dX9_accept_17 : decode cX9_accept 17 = .ok (.putfield 26, 3) := by decide +kernel
theorem dX9_accept_20 : decode cX9_accept 20 = .ok (.iconst 1, 1) := by decide +kernel
theorem dX9_accept_21 : decode cX9_accept 21 = .ok (.ireturn, 1) := by decide +kernel
theorem dX9_expect_0 : decode cX9_expect 0 = .ok (.aload_n 0, 1) := by decide +kernel
theorem dX9_expect_1 : decode cX9_expect 1 = .ok (.iload_n 1, 1) := by decide +kernel
theorem dX9_expect_2 : decode cX9_expect 2 = .ok (.invokevirtual 37, 3) := by decide +kernel
theorem dX9_expect_5 : decode cX9_expect 5 = .ok (.ifCond .ne 11, 3) := by decide +kernel
theorem dX9_expect_8 : decode cX9_expect 8 = .ok (.aload_n 0, 1) := by decide +kernel
theorem dX9_expect_9 : decode cX9_expect 9 = .ok (.aload_n 0, 1) := by decide +kernel
theorem dX9_expect_10 : decode cX9_expect 10 = .ok (.getfield 26, 3) := by decide +kernel
theorem dX9_expect_13 : decode cX9_expect 13 = .ok (.invokevirtual 41, 3) := by decide +kernel
theorem dX9_expect_16 : decode cX9_expect 16 = .ok (.return_, 1) := by decide +kernel
theorem dX9_fail_0 : decode cX9_fail 0 = .ok (.aload_n 0, 1) := by decide +kernel
theorem dX9_fail_1 : decode cX9_fail 1 = .ok (.getfield 11, 3) := by decide +kernel
theorem dX9_fail_4 : decode cX9_fail 4 = .ok (.iconst (-1), 1) := by decide +kernel
theorem dX9_fail_5 : decode cX9_fail 5 = .ok (.if_icmp .ne 8, 3) := by decide +kernel
theorem dX9_fail_8 : decode cX9_fail 8 = .ok (.aload_n 0, 1) := by decide +kernel
theorem dX9_fail_9 : decode cX9_fail 9 = .ok (.iload_n 1, 1) := by decide +kernel
theorem dX9_fail_10 : decode cX9_fail 10 = .ok (.putfield 11, 3) := by decide +kernel
theorem dX9_fail_13 : decode cX9_fail 13 = .ok (.return_, 1) := by decide +kernel
theorem dX9_number_0 : decode cX9_number 0 = .ok (.aload_n 0, 1) := by decide +kernel
theorem dX9_number_1 : decode cX9_number 1 = .ok (.getfield 26, 3) := by decide +kernel
theorem dX9_number_4 : decode cX9_number 4 = .ok (.istore_n 1, 1) := by decide +kernel
theorem dX9_number_5 : decode cX9_number 5 = .ok (.iconst 0, 1) := by decide +kernel
theorem dX9_number_6 : decode cX9_number 6 = .ok (.istore_n 2, 1) := by decide +kernel
theorem dX9_number_7 : decode cX9_number 7 = .ok (.iconst 0, 1) := by decide +kernel
theorem dX9_number_8 : decode cX9_number 8 = .ok (.istore_n 3, 1) := by decide +kernel
theorem dX9_number_9 : decode cX9_number 9 = .ok (.iload_n 3, 1) := by decide +kernel
theorem dX9_number_10 : decode cX9_number 10 = .ok (.bipush 120, 2) := by decide +kernel
theorem dX9_number_12 : decode cX9_number 12 = .ok (.if_icmp .ge 59, 3) := by decide +kernel
theorem dX9_number_15 : decode cX9_number 15 = .ok (.aload_n 0, 1) := by decide +kernel
theorem dX9_number_16 : decode cX9_number 16 = .ok (.invokevirtual 33, 3) := by decide +kernel
theorem dX9_number_19 : decode cX9_number 19 = .ok (.bipush 48, 2) := by decide +kernel
theorem dX9_number_21 : decode cX9_number 21 = .ok (.if_icmp .lt 50, 3) := by decide +kernel
theorem dX9_number_24 : decode cX9_number 24 = .ok (.aload_n 0, 1) := by decide +kernel
theorem dX9_number_25 : decode cX9_number 25 = .ok (.invokevirtual 33, 3) := by decide +kernel
theorem dX9_number_28 : decode cX9_number 28 = .ok (.bipush 57, 2) := by decide +kernel
theorem dX9_number_30 : decode cX9_number 30 = .ok (.if_icmp .gt 41, 3) := by decide +kernel
theorem dX9_number_33 : decode cX9_number 33 = .ok (.iload_n 3, 1) := by decide +kernel
theorem dX9_number_34 : decode cX9_number 34 = .ok (.iconst 3, 1) := by decide +kernel
theorem dX9_number_35 : decode cX9_number 35 = .ok (.if_icmp .ge 18, 3) := by decide +kernel
theorem dX9_number_38 : decode cX9_number 38 = .ok (.bipush 10, 2) := by decide +kernel
theorem dX9_number_40 : decode cX9_number 40 = .ok (.iload_n 2, 1) := by decide +kernel
theorem dX9_number_41 : decode cX9_number 41 = .ok (.imul, 1) := by decide +kernel
theorem dX9_number_42 : decode cX9_number 42 = .ok (.aload_n 0, 1) := by decide +kernel
theorem dX9_number_43 : decode cX9_number 43 = .ok (.invokevirtual 33, 3) := by decide +kernel
theorem dX9_number_46 : decode cX9_number 46 = .ok (.iadd, 1) := by decide +kernel
theorem dX9_number_47 : decode cX9_number 47 = .ok (.bipush 48, 2) := by decide +kernel
theorem dX9_number_49 : decode cX9_number 49 = .ok (.isub, 1) := by decide +kernel
theorem dX9_number_50 : decode cX9_number 50 = .ok (.goto 4, 3) := by decide +kernel
theorem dX9_number_53 : decode cX9_number 53 = .ok (.iload_n 2, 1) := by decide +kernel
theorem dX9_number_54 : decode cX9_number 54 = .ok (.istore_n 2, 1) := by decide +kernel
theorem dX9_number_55 : decode cX9_number 55 = .ok (.iinc 3 1, 3) := by decide +kernel
theorem dX9_number_58 : decode cX9_number 58 = .ok (.aload_n 0, 1) := by decide +kernel
theorem dX9_number_59 : decode cX9_number 59 = .ok (.dup, 1) := by decide +kernel
theorem dX9_number_60 : decode cX9_number 60 = .ok (.getfield 26, 3) := by decide +kernel
theorem dX9_number_63 : decode cX9_number 63 = .ok (.iconst 1, 1) := by decide +kernel
theorem dX9_number_64 : decode cX9_number 64 = .ok (.iadd, 1) := by decide +kernel
theorem dX9_number_65 : decode cX9_number 65 = .ok (.putfield 26, 3) := by decide +kernel
theorem dX9_number_68 : decode cX9_number 68 = .ok (.goto (-59), 3) := by decide +kernel
theorem dX9_number_71 : decode cX9_number 71 = .ok (.iload_n 3, 1) := by decide +kernel
theorem dX9_number_72 : decode cX9_number 72 = .ok (.iconst 1, 1) := by decide +kernel
theorem dX9_number_73 : decode cX9_number 73 = .ok (.if_icmp .lt 8, 3) := by decide +kernel
theorem dX9_number_76 : decode cX9_number 76 = .ok (.iload_n 3, 1) := by decide +kernel
theorem dX9_number_77 : decode cX9_number 77 = .ok (.iconst 3, 1) := by decide +kernel
theorem dX9_number_78 : decode cX9_number 78 = .ok (.if_icmp .le 8, 3) := by decide +kernel
theorem dX9_number_81 : decode cX9_number 81 = .ok (.aload_n 0, 1) := by decide +kernel
theorem dX9_number_82 : decode cX9_number 82 = .ok (.iload_n 1, 1) := by decide +kernel
theorem dX9_number_83 : decode cX9_number 83 = .ok (.invokevirtual 41, 3) := by decide +kernel
theorem dX9_number_86 : decode cX9_number 86 = .ok (.iload_n 2, 1) := by decide +kernel
theorem dX9_number_87 : decode cX9_number 87 = .ok (.ireturn, 1) := by decide +kernel
theorem dX9_verdict_0 : decode cX9_verdict 0 = .ok (.aload_n 0, 1) := by decide +kernel
theorem dX9_verdict_1 : decode cX9_verdict 1 = .ok (.getfield 26, 3) := by decide +kernel
theorem dX9_verdict_4 : decode cX9_verdict 4 = .ok (.aload_n 0, 1) := by decide +kernel
theorem dX9_verdict_5 : decode cX9_verdict 5 = .ok (.getfield 19, 3) := by decide +kernel
theorem dX9_verdict_8 : decode cX9_verdict 8 = .ok (.if_icmp .ge 11, 3) := by decide +kernel
theorem dX9_verdict_11 : decode cX9_verdict 11 = .ok (.aload_n 0, 1) := by decide +kernel
theorem dX9_verdict_12 : decode cX9_verdict 12 = .ok (.aload_n 0, 1) := by decide +kernel
theorem dX9_verdict_13 : decode cX9_verdict 13 = .ok (.getfield 26, 3) := by decide +kernel
theorem dX9_verdict_16 : decode cX9_verdict 16 = .ok (.invokevirtual 41, 3) := by decide +kernel
theorem dX9_verdict_19 : decode cX9_verdict 19 = .ok (.aload_n 0, 1) := by decide +kernel
theorem dX9_verdict_20 : decode cX9_verdict 20 = .ok (.getfield 11, 3) := by decide +kernel
theorem dX9_verdict_23 : decode cX9_verdict 23 = .ok (.iconst (-1), 1) := by decide +kernel
theorem dX9_verdict_24 : decode cX9_verdict 24 = .ok (.if_icmp .ne 8, 3) := by decide +kernel
theorem dX9_verdict_27 : decode cX9_verdict 27 = .ok (.ldc 45, 2) := by decide +kernel
theorem dX9_verdict_29 : decode cX9_verdict 29 = .ok (.goto 7, 3) := by decide +kernel
theorem dX9_verdict_32 : decode cX9_verdict 32 = .ok (.aload_n 0, 1) := by decide +kernel
theorem dX9_verdict_33 : decode cX9_verdict 33 = .ok (.getfield 11, 3) := by decide +kernel
theorem dX9_verdict_36 : decode cX9_verdict 36 = .ok (.ireturn, 1) := by decide +kernel
theorem dX10_init_0 : decode cX10_init 0 = .ok (.aload_n 0, 1) := by decide +kernel
theorem dX10_init_1 : decode cX10_init 1 = .ok (.invokespecial 3, 3) := by decide +kernel
theorem dX10_init_4 : decode cX10_init 4 = .ok (.aload_n 0, 1) := by decide +kernel
theorem dX10_init_5 : decode cX10_init 5 = .ok (.bipush 8, 2) := by decide +kernel
theorem dX10_init_7 : decode cX10_init 7 = .ok (.newarray .int, 2) := by decide +kernel
theorem dX10_init_9 : decode cX10_init 9 = .ok (.putfield 9, 3) := by decide +kernel
theorem dX10_init_12 : decode cX10_init 12 = .ok (.aload_n 0, 1) := by decide +kernel
theorem dX10_init_13 : decode cX10_init 13 = .ok (.bipush 8, 2) := by decide +kernel
theorem dX10_init_15 : decode cX10_init 15 = .ok (.newarray .int, 2) := by decide +kernel
theorem dX10_init_17 : decode cX10_init 17 = .ok (.putfield 15, 3) := by decide +kernel
theorem dX10_init_20 : decode cX10_init 20 = .ok (.return_, 1) := by decide +kernel
theorem dX10_copy_0 : decode cX10_copy 0 = .ok (.aload_n 0, 1) := by decide +kernel
theorem dX10_copy_1 : decode cX10_copy 1 = .ok (.aload_n 1, 1) := by decide +kernel
theorem dX10_copy_2 : decode cX10_copy 2 = .ok (.getfield 18, 3) := by decide +kernel
theorem dX10_copy_5 : decode cX10_copy 5 = .ok (.putfield 18, 3) := by decide +kernel
theorem dX10_copy_8 : decode cX10_copy 8 = .ok (.aload_n 1, 1) := by decide +kernel
theorem dX10_copy_9 : decode cX10_copy 9 = .ok (.getfield 9, 3) := by decide +kernel
theorem dX10_copy_12 : decode cX10_copy 12 = .ok (.aload_n 0, 1) := by decide +kernel
theorem dX10_copy_13 : decode cX10_copy 13 = .ok (.getfield 9, 3) := by decide +kernel
theorem dX10_copy_16 : decode cX10_copy 16 = .ok (.invokestatic 22, 3) := by decide +kernel
theorem dX10_copy_19 : decode cX10_copy 19 = .ok (.aload_n 1, 1) := by decide +kernel
theorem dX10_copy_20 : decode cX10_copy 20 = .ok (.getfield 15, 3) := by decide +kernel
theorem dX10_copy_23 : decode cX10_copy 23 = .ok (.aload_n 0, 1) := by decide +kernel
theorem dX10_copy_24 : decode cX10_copy 24 = .ok (.getfield 15, 3) := by decide +kernel
theorem dX10_copy_27 : decode cX10_copy 27 = .ok (.invokestatic 22, 3) := by decide +kernel
theorem dX10_copy_30 : decode cX10_copy 30 = .ok (.return_, 1) := by decide +kernel
theorem dX10_canFollow_0 : decode cX10_canFollow 0 = .ok (.aload_n 0, 1) := by decide +kernel
theorem dX10_canFollow_1 : decode cX10_canFollow 1 = .ok (.getfield 18, 3) := by decide +kernel
theorem dX10_canFollow_4 : decode cX10_canFollow 4 = .ok (.ifCond .eq 37, 3) := by decide +kernel
theorem dX10_canFollow_7 : decode cX10_canFollow 7 = .ok (.iload_n 1, 1) := by decide +kernel
theorem dX10_canFollow_8 : decode cX10_canFollow 8 = .ok (.aload_n 0, 1) := by decide +kernel
theorem dX10_canFollow_9 : decode cX10_canFollow 9 = .ok (.getfield 9, 3) := by decide +kernel
theorem dX10_canFollow_12 : decode cX10_canFollow 12 = .ok (.aload_n 0, 1) := by decide +kernel
theorem dX10_canFollow_13 : decode cX10_canFollow 13 = .ok (.getfield 18, 3) := by decide +kernel
theorem dX10_canFollow_16 : decode cX10_canFollow 16 = .ok (.iconst 1, 1) := by decide +kernel
theorem dX10_canFollow_17 : decode cX10_canFollow 17 = .ok (.isub, 1) := by decide +kernel
theorem dX10_canFollow_18 : decode cX10_canFollow 18 = .ok (.invokestatic 26, 3) := by decide +kernel
theorem dX10_canFollow_21 : decode cX10_canFollow 21 = .ok (.if_icmp .le 24, 3) := by decide +kernel
theorem dX10_canFollow_24 : decode cX10_canFollow 24 = .ok (.iload_n 2, 1) := by decide +kernel
theorem dX10_canFollow_25 : decode cX10_canFollow 25 = .ok (.aload_n 0, 1) := by decide +kernel
theorem dX10_canFollow_26 : decode cX10_canFollow 26 = .ok (.getfield 15, 3) := by decide +kernel
theorem dX10_canFollow_29 : decode cX10_canFollow 29 = .ok (.aload_n 0, 1) := by decide +kernel
theorem dX10_canFollow_30 : decode cX10_canFollow 30 = .ok (.getfield 18, 3) := by decide +kernel
theorem dX10_canFollow_33 : decode cX10_canFollow 33 = .ok (.iconst 1, 1) := by decide +kernel
theorem dX10_canFollow_34 : decode cX10_canFollow 34 = .ok (.isub, 1) := by decide +kernel
theorem dX10_canFollow_35 : decode cX10_canFollow 35 = .ok (.invokestatic 26, 3) := by decide +kernel
theorem dX10_canFollow_38 : decode cX10_canFollow 38 = .ok (.if_icmp .le 7, 3) := by decide +kernel
theorem dX10_canFollow_41 : decode cX10_canFollow 41 = .ok (.iconst 1, 1) := by decide +kernel
theorem dX10_canFollow_42 : decode cX10_canFollow 42 = .ok (.goto 4, 3) := by decide +kernel
theorem dX10_canFollow_45 : decode cX10_canFollow 45 = .ok (.iconst 0, 1) := by decide +kernel
theorem dX10_canFollow_46 : decode cX10_canFollow 46 = .ok (.ireturn, 1) := by decide +kernel
theorem dX10_add_0 : decode cX10_add 0 = .ok (.aload_n 0, 1) := by decide +kernel
theorem dX10_add_1 : decode cX10_add 1 = .ok (.getfield 9, 3) := by decide +kernel
theorem dX10_add_4 : decode cX10_add 4 = .ok (.aload_n 0, 1) := by decide +kernel
theorem dX10_add_5 : decode cX10_add 5 = .ok (.getfield 18, 3) := by decide +kernel
theorem dX10_add_8 : decode cX10_add 8 = .ok (.iload_n 1, 1) := by decide +kernel
theorem dX10_add_9 : decode cX10_add 9 = .ok (.invokestatic 30, 3) := by decide +kernel
theorem dX10_add_12 : decode cX10_add 12 = .ok (.aload_n 0, 1) := by decide +kernel
theorem dX10_add_13 : decode cX10_add 13 = .ok (.getfield 15, 3) := by decide +kernel
theorem dX10_add_16 : decode cX10_add 16 = .ok (.aload_n 0, 1) := by decide +kernel
theorem dX10_add_17 : decode cX10_add 17 = .ok (.getfield 18, 3) := by decide +kernel
theorem dX10_add_20 : decode cX10_add 20 = .ok (.iload_n 2, 1) := by decide +kernel
theorem dX10_add_21 : decode cX10_add 21 = .ok (.invokestatic 30, 3) := by decide +kernel
theorem dX10_add_24 : decode cX10_add 24 = .ok (.aload_n 0, 1) := by decide +kernel
theorem dX10_add_25 : decode cX10_add 25 = .ok (.dup, 1) := by decide +kernel
theorem dX10_add_26 : decode cX10_add 26 = .ok (.getfield 18, 3) := by decide +kernel
theorem dX10_add_29 : decode cX10_add 29 = .ok (.iconst 1, 1) := by decide +kernel
theorem dX10_add_30 : decode cX10_add 30 = .ok (.iadd, 1) := by decide +kernel
theorem dX10_add_31 : decode cX10_add 31 = .ok (.putfield 18, 3) := by decide +kernel
theorem dX10_add_34 : decode cX10_add 34 = .ok (.return_, 1) := by decide +kernel
theorem dX10_send_0 : decode cX10_send 0 = .ok (.aload_n 0, 1) := by decide +kernel
theorem dX10_send_1 : decode cX10_send 1 = .ok (.getfield 18, 3) := by decide +kernel
theorem dX10_send_4 : decode cX10_send 4 = .ok (.ifCond .ne 5, 3) := by decide +kernel
theorem dX10_send_7 : decode cX10_send 7 = .ok (.iload_n 1, 1) := by decide +kernel
theorem dX10_send_8 : decode cX10_send 8 = .ok (.ireturn, 1) := by decide +kernel
theorem dX10_send_9 : decode cX10_send 9 = .ok (.aload_n 0, 1) := by decide +kernel
theorem dX10_send_10 : decode cX10_send 10 = .ok (.iload_n 1, 1) := by decide +kernel
theorem dX10_send_11 : decode cX10_send 11 = .ok (.invokevirtual 34, 3) := by decide +kernel
theorem dX10_send_14 : decode cX10_send 14 = .ok (.istore_n 2, 1) := by decide +kernel
theorem dX10_send_15 : decode cX10_send 15 = .ok (.iload_n 2, 1) := by decide +kernel
theorem dX10_send_16 : decode cX10_send 16 = .ok (.ifCond .eq 11, 3) := by decide +kernel
theorem dX10_send_19 : decode cX10_send 19 = .ok (.iload_n 2, 1) := by decide +kernel
theorem dX10_send_20 : decode cX10_send 20 = .ok (.aload_n 0, 1) := by decide +kernel
theorem dX10_send_21 : decode cX10_send 21 = .ok (.getfield 18, 3) := by decide +kernel
theorem dX10_send_24 : decode cX10_send 24 = .ok (.if_icmp .ne 38, 3) := by decide +kernel
theorem dX10_send_27 : decode cX10_send 27 = .ok (.iload_n 2, 1) := by decide +kernel
theorem dX10_send_28 : decode cX10_send 28 = .ok (.ifCond .ne 7, 3) := by decide +kernel
theorem dX10_send_31 : decode cX10_send 31 = .ok (.iconst 0, 1) := by decide +kernel
theorem dX10_send_32 : decode cX10_send 32 = .ok (.goto 9, 3) := by decide +kernel
theorem dX10_send_35 : decode cX10_send 35 = .ok (.aload_n 0, 1) := by decide +kernel
theorem dX10_send_36 : decode cX10_send 36 = .ok (.getfield 18, 3) := by decide +kernel
theorem dX10_send_39 : decode cX10_send 39 = .ok (.iconst 1, 1) := by decide +kernel
theorem dX10_send_40 : decode cX10_send 40 = .ok (.isub, 1) := by decide +kernel
theorem dX10_send_41 : decode cX10_send 41 = .ok (.istore_n 3, 1) := by decide +kernel
theorem dX10_send_42 : decode cX10_send 42 = .ok (.iload_n 1, 1) := by decide +kernel
theorem dX10_send_43 : decode cX10_send 43 = .ok (.aload_n 0, 1) := by decide +kernel
theorem dX10_send_44 : decode cX10_send 44 = .ok (.getfield 15, 3) := by decide +kernel
theorem dX10_send_47 : decode cX10_send 47 = .ok (.iload_n 3, 1) := by decide +kernel
theorem dX10_send_48 : decode cX10_send 48 = .ok (.invokestatic 26, 3) := by decide +kernel
theorem dX10_send_51 : decode cX10_send 51 = .ok (.iadd, 1) := by decide +kernel
theorem dX10_send_52 : decode cX10_send 52 = .ok (.aload_n 0, 1) := by decide +kernel
theorem dX10_send_53 : decode cX10_send 53 = .ok (.getfield 9, 3) := by decide +kernel
theorem dX10_send_56 : decode cX10_send 56 = .ok (.iload_n 3, 1) := by decide +kernel
theorem dX10_send_57 : decode cX10_send 57 = .ok (.invokestatic 26, 3) := by decide +kernel
theorem dX10_send_60 : decode cX10_send 60 = .ok (.isub, 1) := by decide +kernel
theorem dX10_send_61 : decode cX10_send 61 = .ok (.ireturn, 1) := by decide +kernel
theorem dX10_send_62 : decode cX10_send 62 = .ok (.iload_n 2, 1) := by decide +kernel
theorem dX10_send_63 : decode cX10_send 63 = .ok (.iconst 1, 1) := by decide +kernel
theorem dX10_send_64 : decode cX10_send 64 = .ok (.isub, 1) := by decide +kernel
theorem dX10_send_65 : decode cX10_send 65 = .ok (.istore_n 3, 1) := by decide +kernel
theorem dX10_send_66 : decode cX10_send 66 = .ok (.iload_n 1, 1) := by decide +kernel
theorem dX10_send_67 : decode cX10_send 67 = .ok (.aload_n 0, 1) := by decide +kernel
theorem dX10_send_68 : decode cX10_send 68 = .ok (.getfield 9, 3) := by decide +kernel
theorem dX10_send_71 : decode cX10_send 71 = .ok (.iload_n 3, 1) := by decide +kernel
theorem dX10_send_72 : decode cX10_send 72 = .ok (.invokestatic 26, 3) := by decide +kernel
theorem dX10_send_75 : decode cX10_send 75 = .ok (.isub, 1) := by decide +kernel
theorem dX10_send_76 : decode cX10_send 76 = .ok (.i2l, 1) := by decide +kernel
theorem dX10_send_77 : decode cX10_send 77 = .ok (.aload_n 0, 1) := by decide +kernel
theorem dX10_send_78 : decode cX10_send 78 = .ok (.iload_n 3, 1) := by decide +kernel
theorem dX10_send_79 : decode cX10_send 79 = .ok (.invokevirtual 38, 3) := by decide +kernel
theorem dX10_send_82 : decode cX10_send 82 = .ok (.i2l, 1) := by decide +kernel
theorem dX10_send_83 : decode cX10_send 83 = .ok (.lmul, 1) := by decide +kernel
theorem dX10_send_84 : decode cX10_send 84 = .ok (.lstore 4, 2) := by decide +kernel
theorem dX10_send_86 : decode cX10_send 86 = .ok (.aload_n 0, 1) := by decide +kernel
theorem dX10_send_87 : decode cX10_send 87 = .ok (.getfield 15, 3) := by decide +kernel
theorem dX10_send_90 : decode cX10_send 90 = .ok (.iload_n 3, 1) := by decide +kernel
theorem dX10_send_91 : decode cX10_send 91 = .ok (.invokestatic 26, 3) := by decide +kernel
theorem dX10_send_94 : decode cX10_send 94 = .ok (.lload 4, 2) := by decide +kernel
theorem dX10_send_96 : decode cX10_send 96 = .ok (.aload_n 0, 1) := by decide +kernel
theorem dX10_send_97 : decode cX10_send 97 = .ok (.iload_n 3, 1) := by decide +kernel
theorem dX10_send_98 : decode cX10_send 98 = .ok (.invokevirtual 41, 3) := by decide +kernel
theorem dX10_send_101 : decode cX10_send 101 = .ok (.i2l, 1) := by decide +kernel
theorem dX10_send_102 : decode cX10_send 102 = .ok (.invokestatic 44, 3) := by decide +kernel
theorem dX10_send_105 : decode cX10_send 105 = .ok (.l2i, 1) := by decide +kernel
theorem dX10_send_106 : decode cX10_send 106 = .ok (.iadd, 1) := by decide +kernel
theorem dX10_send_107 : decode cX10_send 107 = .ok (.ireturn, 1) := by decide +kernel
theorem dX10_stretched_0 : decode cX10_stretched 0 = .ok (.aload_n 0, 1) := by decide +kernel
theorem dX10_stretched_1 : decode cX10_stretched 1 = .ok (.iload_n 3, 1) := by decide +kernel
theorem dX10_stretched_2 : decode cX10_stretched 2 = .ok (.ifCond .eq 9, 3) := by decide +kernel
theorem dX10_stretched_5 : decode cX10_stretched 5 = .ok (.iload_n 2, 1) := by decide +kernel
theorem dX10_stretched_6 : decode cX10_stretched 6 = .ok (.iconst 1, 1) := by decide +kernel
theorem dX10_stretched_7 : decode cX10_stretched 7 = .ok (.iadd, 1) := by decide +kernel
theorem dX10_stretched_8 : decode cX10_stretched 8 = .ok (.goto 4, 3) := by decide +kernel
theorem dX10_stretched_11 : decode cX10_stretched 11 = .ok (.iload_n 2, 1) := by decide +kernel
theorem dX10_stretched_12 : decode cX10_stretched 12 = .ok (.invokevirtual 34, 3) := by decide +kernel
theorem dX10_stretched_15 : decode cX10_stretched 15 = .ok (.istore 4, 2) := by decide +kernel
theorem dX10_stretched_17 : decode cX10_stretched 17 = .ok (.iload 4, 2) := by decide +kernel
theorem dX10_stretched_19 : decode cX10_stretched 19 = .ok (.ifCond .eq 12, 3) := by decide +kernel
theorem dX10_stretched_22 : decode cX10_stretched 22 = .ok (.iload 4, 2) := by decide +kernel
theorem dX10_stretched_24 : decode cX10_stretched 24 = .ok (.aload_n 0, 1) := by decide +kernel
theorem dX10_stretched_25 : decode cX10_stretched 25 = .ok (.getfield 18, 3) := by decide +kernel
theorem dX10_stretched_28 : decode cX10_stretched 28 = .ok (.if_icmp .ne 5, 3) := by decide +kernel
theorem dX10_stretched_31 : decode cX10_stretched 31 = .ok (.iload_n 1, 1) := by decide +kernel
theorem dX10_stretched_32 : decode cX10_stretched 32 = .ok (.ireturn, 1) := by decide +kernel
theorem dX10_stretched_33 : decode cX10_stretched 33 = .ok (.iload 4, 2) := by decide +kernel
theorem dX10_stretched_35 : decode cX10_stretched 35 = .ok (.iconst 1, 1) := by decide +kernel
theorem dX10_stretched_36 : decode cX10_stretched 36 = .ok (.isub, 1) := by decide +kernel
theorem dX10_stretched_37 : decode cX10_stretched 37 = .ok (.istore 5, 2) := by decide +kernel
theorem dX10_stretched_39 : decode cX10_stretched 39 = .ok (.iload_n 1, 1) := by decide +kernel
theorem dX10_stretched_40 : decode cX10_stretched 40 = .ok (.i2l, 1) := by decide +kernel
theorem dX10_stretched_41 : decode cX10_stretched 41 = .ok (.aload_n 0, 1) := by decide +kernel
theorem dX10_stretched_42 : decode cX10_stretched 42 = .ok (.iload 5, 2) := by decide +kernel
theorem dX10_stretched_44 : decode cX10_stretched 44 = .ok (.invokevirtual 41, 3) := by decide +kernel
theorem dX10_stretched_47 : decode cX10_stretched 47 = .ok (.i2l, 1) := by decide +kernel
theorem dX10_stretched_48 : decode cX10_stretched 48 = .ok (.lmul, 1) := by decide +kernel
theorem dX10_stretched_49 : decode cX10_stretched 49 = .ok (.aload_n 0, 1) := by decide +kernel
theorem dX10_stretched_50 : decode cX10_stretched 50 = .ok (.iload 5, 2) := by decide +kernel
theorem dX10_stretched_52 : decode cX10_stretched 52 = .ok (.invokevirtual 38, 3) := by decide +kernel
theorem dX10_stretched_55 : decode cX10_stretched 55 = .ok (.i2l, 1) := by decide +kernel
theorem dX10_stretched_56 : decode cX10_stretched 56 = .ok (.invokestatic 44, 3) := by decide +kernel
theorem dX10_stretched_59 : decode cX10_stretched 59 = .ok (.sipush 9999, 3) := by decide +kernel
theorem dX10_stretched_62 : decode cX10_stretched 62 = .ok (.invokestatic 48, 3) := by decide +kernel
theorem dX10_stretched_65 : decode cX10_stretched 65 = .ok (.ireturn, 1) := by decide +kernel
theorem dX10_pointsBefore_0 : decode cX10_pointsBefore 0 = .ok (.iconst 0, 1) := by decide +kernel
theorem dX10_pointsBefore_1 : decode cX10_pointsBefore 1 = .ok (.istore_n 2, 1) := by decide +kernel
theorem dX10_pointsBefore_2 : decode cX10_pointsBefore 2 = .ok (.iload_n 2, 1) := by decide +kernel
theorem dX10_pointsBefore_3 : decode cX10_pointsBefore 3 = .ok (.aload_n 0, 1) := by decide +kernel
theorem dX10_pointsBefore_4 : decode cX10_pointsBefore 4 = .ok (.getfield 18, 3) := by decide +kernel
theorem dX10_pointsBefore_7 : decode cX10_pointsBefore 7 = .ok (.if_icmp .ge 21, 3) := by decide +kernel
theorem dX10_pointsBefore_10 : decode cX10_pointsBefore 10 = .ok (.aload_n 0, 1) := by decide +kernel
theorem dX10_pointsBefore_11 : decode cX10_pointsBefore 11 = .ok (.getfield 9, 3) := by decide +kernel
theorem dX10_pointsBefore_14 : decode cX10_pointsBefore 14 = .ok (.iload_n 2, 1) := by decide +kernel
theorem dX10_pointsBefore_15 : decode cX10_pointsBefore 15 = .ok (.invokestatic 26, 3) := by decide +kernel
theorem dX10_pointsBefore_18 : decode cX10_pointsBefore 18 = .ok (.iload_n 1, 1) := by decide +kernel
theorem dX10_pointsBefore_19 : decode cX10_pointsBefore 19 = .ok (.if_icmp .ge 9, 3) := by decide +kernel
theorem dX10_pointsBefore_22 : decode cX10_pointsBefore 22 = .ok (.iinc 2 1, 3) := by decide +kernel
theorem dX10_pointsBefore_25 : decode cX10_pointsBefore 25 = .ok (.goto (-23), 3) := by decide +kernel
theorem dX10_pointsBefore_28 : decode cX10_pointsBefore 28 = .ok (.iload_n 2, 1) := by decide +kernel
theorem dX10_pointsBefore_29 : decode cX10_pointsBefore 29 = .ok (.ireturn, 1) := by decide +kernel
theorem dX10_sourceLength_0 : decode cX10_sourceLength 0 = .ok (.aload_n 0, 1) := by decide +kernel
theorem dX10_sourceLength_1 : decode cX10_sourceLength 1 = .ok (.getfield 9, 3) := by decide +kernel
theorem dX10_sourceLength_4 : decode cX10_sourceLength 4 = .ok (.iload_n 1, 1) := by decide +kernel
theorem dX10_sourceLength_5 : decode cX10_sourceLength 5 = .ok (.iconst 1, 1) := by decide +kernel
theorem dX10_sourceLength_6 : decode cX10_sourceLength 6 = .ok (.iadd, 1) := by decide +kernel
theorem dX10_sourceLength_7 : decode cX10_sourceLength 7 = .ok (.invokestatic 26, 3) := by decide +kernel
theorem dX10_sourceLength_10 : decode cX10_sourceLength 10 = .ok (.aload_n 0, 1) := by decide +kernel
theorem dX10_sourceLength_11 : decode cX10_sourceLength 11 = .ok (.getfield 9, 3) := by decide +kernel
theorem dX10_sourceLength_14 : decode cX10_sourceLength 14 = .ok (.iload_n 1, 1) := by decide +kernel
theorem dX10_sourceLength_15 : decode cX10_sourceLength 15 = .ok (.invokestatic 26, 3) := by decide +kernel
theorem dX10_sourceLength_18 : decode cX10_sourceLength 18 = .ok (.isub, 1) := by decide +kernel
theorem dX10_sourceLength_19 : decode cX10_sourceLength 19 = .ok (.ireturn, 1) := by decide +kernel
theorem dX10_targetLength_0 : decode cX10_targetLength 0 = .ok (.aload_n 0, 1) := by decide +kernel
theorem dX10_targetLength_1 : decode cX10_targetLength 1 = .ok (.getfield 15, 3) := by decide +kernel
theorem dX10_targetLength_4 : decode cX10_targetLength 4 = .ok (.iload_n 1, 1) := by decide +kernel
theorem dX10_targetLength_5 : decode cX10_targetLength 5 = .ok (.iconst 1, 1) := by decide +kernel
theorem dX10_targetLength_6 : decode cX10_targetLength 6 = .ok (.iadd, 1) := by decide +kernel
theorem dX10_targetLength_7 : decode cX10_targetLength 7 = .ok (.invokestatic 26, 3) := by decide +kernel
theorem dX10_targetLength_10 : decode cX10_targetLength 10 = .ok (.aload_n 0, 1) := by decide +kernel
theorem dX10_targetLength_11 : decode cX10_targetLength 11 = .ok (.getfield 15, 3) := by decide +kernel
theorem dX10_targetLength_14 : decode cX10_targetLength 14 = .ok (.iload_n 1, 1) := by decide +kernel
theorem dX10_targetLength_15 : decode cX10_targetLength 15 = .ok (.invokestatic 26, 3) := by decide +kernel
theorem dX10_targetLength_18 : decode cX10_targetLength 18 = .ok (.isub, 1) := by decide +kernel
theorem dX10_targetLength_19 : decode cX10_targetLength 19 = .ok (.ireturn, 1) := by decide +kernel
theorem dX10_addTo_0 : decode cX10_addTo 0 = .ok (.ldc2_w 52, 3) := by decide +kernel
theorem dX10_addTo_3 : decode cX10_addTo 3 = .ok (.lload_n 1, 1) := by decide +kernel
theorem dX10_addTo_4 : decode cX10_addTo 4 = .ok (.lmul, 1) := by decide +kernel
theorem dX10_addTo_5 : decode cX10_addTo 5 = .ok (.aload_n 0, 1) := by decide +kernel
theorem dX10_addTo_6 : decode cX10_addTo 6 = .ok (.getfield 18, 3) := by decide +kernel
theorem dX10_addTo_9 : decode cX10_addTo 9 = .ok (.i2l, 1) := by decide +kernel
theorem dX10_addTo_10 : decode cX10_addTo 10 = .ok (.ladd, 1) := by decide +kernel
theorem dX10_addTo_11 : decode cX10_addTo 11 = .ok (.lstore_n 3, 1) := by decide +kernel
theorem dX10_addTo_12 : decode cX10_addTo 12 = .ok (.iconst 0, 1) := by decide +kernel
theorem dX10_addTo_13 : decode cX10_addTo 13 = .ok (.istore 5, 2) := by decide +kernel
theorem dX10_addTo_15 : decode cX10_addTo 15 = .ok (.iload 5, 2) := by decide +kernel
theorem dX10_addTo_17 : decode cX10_addTo 17 = .ok (.aload_n 0, 1) := by decide +kernel
theorem dX10_addTo_18 : decode cX10_addTo 18 = .ok (.getfield 18, 3) := by decide +kernel
theorem dX10_addTo_21 : decode cX10_addTo 21 = .ok (.if_icmp .ge 43, 3) := by decide +kernel
theorem dX10_addTo_24 : decode cX10_addTo 24 = .ok (.ldc2_w 52, 3) := by decide +kernel
theorem dX10_addTo_27 : decode cX10_addTo 27 = .ok (.lload_n 3, 1) := by decide +kernel
theorem dX10_addTo_28 : decode cX10_addTo 28 = .ok (.lmul, 1) := by decide +kernel
theorem dX10_addTo_29 : decode cX10_addTo 29 = .ok (.aload_n 0, 1) := by decide +kernel
theorem dX10_addTo_30 : decode cX10_addTo 30 = .ok (.getfield 9, 3) := by decide +kernel
theorem dX10_addTo_33 : decode cX10_addTo 33 = .ok (.iload 5, 2) := by decide +kernel
theorem dX10_addTo_35 : decode cX10_addTo 35 = .ok (.invokestatic 26, 3) := by decide +kernel
theorem dX10_addTo_38 : decode cX10_addTo 38 = .ok (.i2l, 1) := by decide +kernel
theorem dX10_addTo_39 : decode cX10_addTo 39 = .ok (.ladd, 1) := by decide +kernel
theorem dX10_addTo_40 : decode cX10_addTo 40 = .ok (.lstore_n 3, 1) := by decide +kernel
theorem dX10_addTo_41 : decode cX10_addTo 41 = .ok (.ldc2_w 52, 3) := by decide +kernel
theorem dX10_addTo_44 : decode cX10_addTo 44 = .ok (.lload_n 3, 1) := by decide +kernel
theorem dX10_addTo_45 : decode cX10_addTo 45 = .ok (.lmul, 1) := by decide +kernel
theorem dX10_addTo_46 : decode cX10_addTo 46 = .ok (.aload_n 0, 1) := by decide +kernel
theorem dX10_addTo_47 : decode cX10_addTo 47 = .ok (.getfield 15, 3) := by decide +kernel
theorem dX10_addTo_50 : decode cX10_addTo 50 = .ok (.iload 5, 2) := by decide +kernel
theorem dX10_addTo_52 : decode cX10_addTo 52 = .ok (.invokestatic 26, 3) := by decide +kernel
theorem dX10_addTo_55 : decode cX10_addTo 55 = .ok (.i2l, 1) := by decide +kernel
theorem dX10_addTo_56 : decode cX10_addTo 56 = .ok (.ladd, 1) := by decide +kernel
theorem dX10_addTo_57 : decode cX10_addTo 57 = .ok (.lstore_n 3, 1) := by decide +kernel
theorem dX10_addTo_58 : decode cX10_addTo 58 = .ok (.iinc 5 1, 3) := by decide +kernel
theorem dX10_addTo_61 : decode cX10_addTo 61 = .ok (.goto (-46), 3) := by decide +kernel
theorem dX10_addTo_64 : decode cX10_addTo 64 = .ok (.lload_n 3, 1) := by decide +kernel
theorem dX10_addTo_65 : decode cX10_addTo 65 = .ok (.lreturn, 1) := by decide +kernel
theorem dX11_init_0 : decode cX11_init 0 = .ok (.aload_n 0, 1) := by decide +kernel
theorem dX11_init_1 : decode cX11_init 1 = .ok (.invokespecial 1, 3) := by decide +kernel
theorem dX11_init_4 : decode cX11_init 4 = .ok (.aload_n 0, 1) := by decide +kernel
theorem dX11_init_5 : decode cX11_init 5 = .ok (.new 7, 3) := by decide +kernel
theorem dX11_init_8 : decode cX11_init 8 = .ok (.dup, 1) := by decide +kernel
theorem dX11_init_9 : decode cX11_init 9 = .ok (.invokespecial 9, 3) := by decide +kernel
theorem dX11_init_12 : decode cX11_init 12 = .ok (.putfield 10, 3) := by decide +kernel
theorem dX11_init_15 : decode cX11_init 15 = .ok (.aload_n 0, 1) := by decide +kernel
theorem dX11_init_16 : decode cX11_init 16 = .ok (.new 16, 3) := by decide +kernel
theorem dX11_init_19 : decode cX11_init 19 = .ok (.dup, 1) := by decide +kernel
theorem dX11_init_20 : decode cX11_init 20 = .ok (.invokespecial 18, 3) := by decide +kernel
theorem dX11_init_23 : decode cX11_init 23 = .ok (.putfield 19, 3) := by decide +kernel
theorem dX11_init_26 : decode cX11_init 26 = .ok (.aload_n 0, 1) := by decide +kernel
theorem dX11_init_27 : decode cX11_init 27 = .ok (.new 23, 3) := by decide +kernel
theorem dX11_init_30 : decode cX11_init 30 = .ok (.dup, 1) := by decide +kernel
theorem dX11_init_31 : decode cX11_init 31 = .ok (.invokespecial 25, 3) := by decide +kernel
theorem dX11_init_34 : decode cX11_init 34 = .ok (.putfield 26, 3) := by decide +kernel
theorem dX11_init_37 : decode cX11_init 37 = .ok (.aload_n 0, 1) := by decide +kernel
theorem dX11_init_38 : decode cX11_init 38 = .ok (.new 30, 3) := by decide +kernel
theorem dX11_init_41 : decode cX11_init 41 = .ok (.dup, 1) := by decide +kernel
theorem dX11_init_42 : decode cX11_init 42 = .ok (.invokespecial 32, 3) := by decide +kernel
theorem dX11_init_45 : decode cX11_init 45 = .ok (.putfield 33, 3) := by decide +kernel
theorem dX11_init_48 : decode cX11_init 48 = .ok (.aload_n 0, 1) := by decide +kernel
theorem dX11_init_49 : decode cX11_init 49 = .ok (.new 37, 3) := by decide +kernel
theorem dX11_init_52 : decode cX11_init 52 = .ok (.dup, 1) := by decide +kernel
theorem dX11_init_53 : decode cX11_init 53 = .ok (.invokespecial 39, 3) := by decide +kernel
theorem dX11_init_56 : decode cX11_init 56 = .ok (.putfield 40, 3) := by decide +kernel
theorem dX11_init_59 : decode cX11_init 59 = .ok (.aload_n 0, 1) := by decide +kernel
theorem dX11_init_60 : decode cX11_init 60 = .ok (.new 44, 3) := by decide +kernel
theorem dX11_init_63 : decode cX11_init 63 = .ok (.dup, 1) := by decide +kernel
theorem dX11_init_64 : decode cX11_init 64 = .ok (.invokespecial 46, 3) := by decide +kernel
theorem dX11_init_67 : decode cX11_init 67 = .ok (.putfield 47, 3) := by decide +kernel
theorem dX11_init_70 : decode cX11_init 70 = .ok (.aload_n 0, 1) := by decide +kernel
theorem dX11_init_71 : decode cX11_init 71 = .ok (.new 51, 3) := by decide +kernel
theorem dX11_init_74 : decode cX11_init 74 = .ok (.dup, 1) := by decide +kernel
theorem dX11_init_75 : decode cX11_init 75 = .ok (.invokespecial 53, 3) := by decide +kernel
theorem dX11_init_78 : decode cX11_init 78 = .ok (.putfield 54, 3) := by decide +kernel
theorem dX11_init_81 : decode cX11_init 81 = .ok (.aload_n 0, 1) := by decide +kernel
theorem dX11_init_82 : decode cX11_init 82 = .ok (.new 58, 3) := by decide +kernel
theorem dX11_init_85 : decode cX11_init 85 = .ok (.dup, 1) := by decide +kernel
theorem dX11_init_86 : decode cX11_init 86 = .ok (.invokespecial 60, 3) := by decide +kernel
theorem dX11_init_89 : decode cX11_init 89 = .ok (.putfield 61, 3) := by decide +kernel
theorem dX11_init_92 : decode cX11_init 92 = .ok (.aload_n 0, 1) := by decide +kernel
theorem dX11_init_93 : decode cX11_init 93 = .ok (.bipush 24, 2) := by decide +kernel
theorem dX11_init_95 : decode cX11_init 95 = .ok (.newarray .int, 2) := by decide +kernel
theorem dX11_init_97 : decode cX11_init 97 = .ok (.putfield 65, 3) := by decide +kernel
theorem dX11_init_100 : decode cX11_init 100 = .ok (.return_, 1) := by decide +kernel
theorem dX11_setKey_0 : decode cX11_setKey 0 = .ok (.aload_n 0, 1) := by decide +kernel
theorem dX11_setKey_1 : decode cX11_setKey 1 = .ok (.getfield 10, 3) := by decide +kernel
theorem dX11_setKey_4 : decode cX11_setKey 4 = .ok (.iload_n 1, 1) := by decide +kernel
theorem dX11_setKey_5 : decode cX11_setKey 5 = .ok (.invokevirtual 69, 3) := by decide +kernel
theorem dX11_setKey_8 : decode cX11_setKey 8 = .ok (.astore 4, 2) := by decide +kernel
theorem dX11_setKey_10 : decode cX11_setKey 10 = .ok (.aload 4, 2) := by decide +kernel
theorem dX11_setKey_12 : decode cX11_setKey 12 = .ok (.ifnonnull 6, 3) := by decide +kernel
theorem dX11_setKey_15 : decode cX11_setKey 15 = .ok (.ldc 73, 2) := by decide +kernel
