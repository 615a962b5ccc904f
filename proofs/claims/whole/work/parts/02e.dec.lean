theorem dX12_setMode_0 : decode cX12_setMode 0 = .ok (.iload_n 1, 1) := by decide +kernel
theorem dX12_setMode_1 : decode cX12_setMode 1 = .ok (.invokestatic 74, 3) := by decide +kernel
theorem dX12_setMode_4 : decode cX12_setMode 4 = .ok (.ifCond .eq 12, 3) := by decide +kernel
theorem dX12_setMode_7 : decode cX12_setMode 7 = .ok (.aload_n 0, 1) := by decide +kernel
theorem dX12_setMode_8 : decode cX12_setMode 8 = .ok (.iload_n 1, 1) := by decide +kernel
theorem dX12_setMode_9 : decode cX12_setMode 9 = .ok (.iload_n 2, 1) := by decide +kernel
theorem dX12_setMode_10 : decode cX12_setMode 10 = .ok (.invokevirtual 142, 3) := by decide +kernel
theorem dX12_setMode_13 : decode cX12_setMode 13 = .ok (.goto 4, 3) := by decide +kernel
theorem dX12_setMode_16 : decode cX12_setMode 16 = .ok (.iconst (-1), 1) := by decide +kernel
theorem dX12_setMode_17 : decode cX12_setMode 17 = .ok (.istore 4, 2) := by decide +kernel
theorem dX12_setMode_19 : decode cX12_setMode 19 = .ok (.iload 4, 2) := by decide +kernel
theorem dX12_setMode_21 : decode cX12_setMode 21 = .ok (.ifCond .ge 6, 3) := by decide +kernel
theorem dX12_setMode_24 : decode cX12_setMode 24 = .ok (.ldc 131, 2) := by decide +kernel
theorem dX12_setMode_26 : decode cX12_setMode 26 = .ok (.ireturn, 1) := by decide +kernel
theorem dX12_setMode_27 : decode cX12_setMode 27 = .ok (.iload_n 3, 1) := by decide +kernel
theorem dX12_setMode_28 : decode cX12_setMode 28 = .ok (.iconst 0, 1) := by decide +kernel
theorem dX12_setMode_29 : decode cX12_setMode 29 = .ok (.bipush 6, 2) := by decide +kernel
theorem dX12_setMode_31 : decode cX12_setMode 31 = .ok (.invokestatic 66, 3) := by decide +kernel
theorem dX12_setMode_34 : decode cX12_setMode 34 = .ok (.ifCond .ne 6, 3) := by decide +kernel
theorem dX12_setMode_37 : decode cX12_setMode 37 = .ok (.ldc 132, 2) := by decide +kernel
theorem dX12_setMode_39 : decode cX12_setMode 39 = .ok (.ireturn, 1) := by decide +kernel
theorem dX12_setMode_40 : decode cX12_setMode 40 = .ok (.aload_n 0, 1) := by decide +kernel
theorem dX12_setMode_41 : decode cX12_setMode 41 = .ok (.invokevirtual 146, 3) := by decide +kernel
theorem dX12_setMode_44 : decode cX12_setMode 44 = .ok (.aload_n 0, 1) := by decide +kernel
theorem dX12_setMode_45 : decode cX12_setMode 45 = .ok (.getfield 7, 3) := by decide +kernel
theorem dX12_setMode_48 : decode cX12_setMode 48 = .ok (.iload_n 1, 1) := by decide +kernel
theorem dX12_setMode_49 : decode cX12_setMode 49 = .ok (.bipush 52, 2) := by decide +kernel
theorem dX12_setMode_51 : decode cX12_setMode 51 = .ok (.iload 4, 2) := by decide +kernel
theorem dX12_setMode_53 : decode cX12_setMode 53 = .ok (.invokestatic 70, 3) := by decide +kernel
theorem dX12_setMode_56 : decode cX12_setMode 56 = .ok (.iaload, 1) := by decide +kernel
theorem dX12_setMode_57 : decode cX12_setMode 57 = .ok (.istore 5, 2) := by decide +kernel
theorem dX12_setMode_59 : decode cX12_setMode 59 = .ok (.iload_n 3, 1) := by decide +kernel
theorem dX12_setMode_60 : decode cX12_setMode 60 = .ok (.ifCond .ne 10, 3) := by decide +kernel
theorem dX12_setMode_63 : decode cX12_setMode 63 = .ok (.aload_n 0, 1) := by decide +kernel
theorem dX12_setMode_64 : decode cX12_setMode 64 = .ok (.iload_n 1, 1) := by decide +kernel
theorem dX12_setMode_65 : decode cX12_setMode 65 = .ok (.iload 4, 2) := by decide +kernel
theorem dX12_setMode_67 : decode cX12_setMode 67 = .ok (.invokevirtual 158, 3) := by decide +kernel
theorem dX12_setMode_70 : decode cX12_setMode 70 = .ok (.aload_n 0, 1) := by decide +kernel
theorem dX12_setMode_71 : decode cX12_setMode 71 = .ok (.getfield 7, 3) := by decide +kernel
theorem dX12_setMode_74 : decode cX12_setMode 74 = .ok (.iload_n 1, 1) := by decide +kernel
theorem dX12_setMode_75 : decode cX12_setMode 75 = .ok (.bipush 52, 2) := by decide +kernel
theorem dX12_setMode_77 : decode cX12_setMode 77 = .ok (.iload 4, 2) := by decide +kernel
theorem dX12_setMode_79 : decode cX12_setMode 79 = .ok (.invokestatic 70, 3) := by decide +kernel
theorem dX12_setMode_82 : decode cX12_setMode 82 = .ok (.iload_n 3, 1) := by decide +kernel
theorem dX12_setMode_83 : decode cX12_setMode 83 = .ok (.iastore, 1) := by decide +kernel
theorem dX12_setMode_84 : decode cX12_setMode 84 = .ok (.iload 5, 2) := by decide +kernel
theorem dX12_setMode_86 : decode cX12_setMode 86 = .ok (.ireturn, 1) := by decide +kernel
theorem dX12_setSlopes_0 : decode cX12_setSlopes 0 = .ok (.iload_n 1, 1) := by decide +kernel
theorem dX12_setSlopes_1 : decode cX12_setSlopes 1 = .ok (.invokestatic 74, 3) := by decide +kernel
theorem dX12_setSlopes_4 : decode cX12_setSlopes 4 = .ok (.ifCond .eq 12, 3) := by decide +kernel
theorem dX12_setSlopes_7 : decode cX12_setSlopes 7 = .ok (.aload_n 0, 1) := by decide +kernel
theorem dX12_setSlopes_8 : decode cX12_setSlopes 8 = .ok (.iload_n 1, 1) := by decide +kernel
theorem dX12_setSlopes_9 : decode cX12_setSlopes 9 = .ok (.iload_n 2, 1) := by decide +kernel
theorem dX12_setSlopes_10 : decode cX12_setSlopes 10 = .ok (.invokevirtual 142, 3) := by decide +kernel
theorem dX12_setSlopes_13 : decode cX12_setSlopes 13 = .ok (.goto 4, 3) := by decide +kernel
theorem dX12_setSlopes_16 : decode cX12_setSlopes 16 = .ok (.iconst (-1), 1) := by decide +kernel
theorem dX12_setSlopes_17 : decode cX12_setSlopes 17 = .ok (.istore 5, 2) := by decide +kernel
theorem dX12_setSlopes_19 : decode cX12_setSlopes 19 = .ok (.iload 5, 2) := by decide +kernel
theorem dX12_setSlopes_21 : decode cX12_setSlopes 21 = .ok (.ifCond .ge 6, 3) := by decide +kernel
theorem dX12_setSlopes_24 : decode cX12_setSlopes 24 = .ok (.ldc 131, 2) := by decide +kernel
theorem dX12_setSlopes_26 : decode cX12_setSlopes 26 = .ok (.ireturn, 1) := by decide +kernel
theorem dX12_setSlopes_27 : decode cX12_setSlopes 27 = .ok (.iload_n 3, 1) := by decide +kernel
theorem dX12_setSlopes_28 : decode cX12_setSlopes 28 = .ok (.sipush (-9999), 3) := by decide +kernel
theorem dX12_setSlopes_31 : decode cX12_setSlopes 31 = .ok (.sipush 9999, 3) := by decide +kernel
theorem dX12_setSlopes_34 : decode cX12_setSlopes 34 = .ok (.invokestatic 66, 3) := by decide +kernel
theorem dX12_setSlopes_37 : decode cX12_setSlopes 37 = .ok (.ifCond .eq 17, 3) := by decide +kernel
theorem dX12_setSlopes_40 : decode cX12_setSlopes 40 = .ok (.iload 4, 2) := by decide +kernel
theorem dX12_setSlopes_42 : decode cX12_setSlopes 42 = .ok (.sipush (-9999), 3) := by decide +kernel
theorem dX12_setSlopes_45 : decode cX12_setSlopes 45 = .ok (.sipush 9999, 3) := by decide +kernel
theorem dX12_setSlopes_48 : decode cX12_setSlopes 48 = .ok (.invokestatic 66, 3) := by decide +kernel
theorem dX12_setSlopes_51 : decode cX12_setSlopes 51 = .ok (.ifCond .ne 6, 3) := by decide +kernel
theorem dX12_setSlopes_54 : decode cX12_setSlopes 54 = .ok (.ldc 132, 2) := by decide +kernel
theorem dX12_setSlopes_56 : decode cX12_setSlopes 56 = .ok (.ireturn, 1) := by decide +kernel
theorem dX12_setSlopes_57 : decode cX12_setSlopes 57 = .ok (.aload_n 0, 1) := by decide +kernel
theorem dX12_setSlopes_58 : decode cX12_setSlopes 58 = .ok (.invokevirtual 146, 3) := by decide +kernel
theorem dX12_setSlopes_61 : decode cX12_setSlopes 61 = .ok (.aload_n 0, 1) := by decide +kernel
theorem dX12_setSlopes_62 : decode cX12_setSlopes 62 = .ok (.getfield 7, 3) := by decide +kernel
theorem dX12_setSlopes_65 : decode cX12_setSlopes 65 = .ok (.iload_n 1, 1) := by decide +kernel
theorem dX12_setSlopes_66 : decode cX12_setSlopes 66 = .ok (.bipush 52, 2) := by decide +kernel
theorem dX12_setSlopes_68 : decode cX12_setSlopes 68 = .ok (.iload 5, 2) := by decide +kernel
theorem dX12_setSlopes_70 : decode cX12_setSlopes 70 = .ok (.invokestatic 70, 3) := by decide +kernel
theorem dX12_setSlopes_73 : decode cX12_setSlopes 73 = .ok (.iaload, 1) := by decide +kernel
theorem dX12_setSlopes_74 : decode cX12_setSlopes 74 = .ok (.istore 6, 2) := by decide +kernel
theorem dX12_setSlopes_76 : decode cX12_setSlopes 76 = .ok (.aload_n 0, 1) := by decide +kernel
theorem dX12_setSlopes_77 : decode cX12_setSlopes 77 = .ok (.getfield 7, 3) := by decide +kernel
theorem dX12_setSlopes_80 : decode cX12_setSlopes 80 = .ok (.iload_n 1, 1) := by decide +kernel
theorem dX12_setSlopes_81 : decode cX12_setSlopes 81 = .ok (.bipush 52, 2) := by decide +kernel
theorem dX12_setSlopes_83 : decode cX12_setSlopes 83 = .ok (.iload 5, 2) := by decide +kernel
theorem dX12_setSlopes_85 : decode cX12_setSlopes 85 = .ok (.invokestatic 70, 3) := by decide +kernel
theorem dX12_setSlopes_88 : decode cX12_setSlopes 88 = .ok (.iconst 0, 1) := by decide +kernel
theorem dX12_setSlopes_89 : decode cX12_setSlopes 89 = .ok (.iastore, 1) := by decide +kernel
theorem dX12_setSlopes_90 : decode cX12_setSlopes 90 = .ok (.aload_n 0, 1) := by decide +kernel
theorem dX12_setSlopes_91 : decode cX12_setSlopes 91 = .ok (.getfield 7, 3) := by decide +kernel
theorem dX12_setSlopes_94 : decode cX12_setSlopes 94 = .ok (.iload_n 1, 1) := by decide +kernel
theorem dX12_setSlopes_95 : decode cX12_setSlopes 95 = .ok (.bipush 76, 2) := by decide +kernel
theorem dX12_setSlopes_97 : decode cX12_setSlopes 97 = .ok (.iload 5, 2) := by decide +kernel
theorem dX12_setSlopes_99 : decode cX12_setSlopes 99 = .ok (.invokestatic 70, 3) := by decide +kernel
theorem dX12_setSlopes_102 : decode cX12_setSlopes 102 = .ok (.iload_n 3, 1) := by decide +kernel
theorem dX12_setSlopes_103 : decode cX12_setSlopes 103 = .ok (.iastore, 1) := by decide +kernel
theorem dX12_setSlopes_104 : decode cX12_setSlopes 104 = .ok (.aload_n 0, 1) := by decide +kernel
theorem dX12_setSlopes_105 : decode cX12_setSlopes 105 = .ok (.getfield 7, 3) := by decide +kernel
theorem dX12_setSlopes_108 : decode cX12_setSlopes 108 = .ok (.iload_n 1, 1) := by decide +kernel
theorem dX12_setSlopes_109 : decode cX12_setSlopes 109 = .ok (.bipush 100, 2) := by decide +kernel
theorem dX12_setSlopes_111 : decode cX12_setSlopes 111 = .ok (.iload 5, 2) := by decide +kernel
theorem dX12_setSlopes_113 : decode cX12_setSlopes 113 = .ok (.invokestatic 70, 3) := by decide +kernel
theorem dX12_setSlopes_116 : decode cX12_setSlopes 116 = .ok (.iload 4, 2) := by decide +kernel
theorem dX12_setSlopes_118 : decode cX12_setSlopes 118 = .ok (.iastore, 1) := by decide +kernel
theorem dX12_setSlopes_119 : decode cX12_setSlopes 119 = .ok (.iload 6, 2) := by decide +kernel
theorem dX12_setSlopes_121 : decode cX12_setSlopes 121 = .ok (.ireturn, 1) := by decide +kernel
theorem dX12_inUnits_0 : decode cX12_inUnits 0 = .ok (.lload_n 0, 1) := by decide +kernel
theorem dX12_inUnits_1 : decode cX12_inUnits 1 = .ok (.ldc2_w 91, 3) := by decide +kernel
theorem dX12_inUnits_4 : decode cX12_inUnits 4 = .ok (.invokestatic 93, 3) := by decide +kernel
theorem dX12_inUnits_7 : decode cX12_inUnits 7 = .ok (.sipush 999, 3) := by decide +kernel
theorem dX12_inUnits_10 : decode cX12_inUnits 10 = .ok (.invokestatic 108, 3) := by decide +kernel
theorem dX12_inUnits_13 : decode cX12_inUnits 13 = .ok (.ireturn, 1) := by decide +kernel
theorem dX12_split_0 : decode cX12_split 0 = .ok (.iload_n 1, 1) := by decide +kernel
theorem dX12_split_1 : decode cX12_split 1 = .ok (.invokestatic 74, 3) := by decide +kernel
theorem dX12_split_4 : decode cX12_split 4 = .ok (.ifCond .ne 6, 3) := by decide +kernel
theorem dX12_split_7 : decode cX12_split 7 = .ok (.ldc 131, 2) := by decide +kernel
theorem dX12_split_9 : decode cX12_split 9 = .ok (.ireturn, 1) := by decide +kernel
theorem dX12_split_10 : decode cX12_split 10 = .ok (.aload_n 0, 1) := by decide +kernel
theorem dX12_split_11 : decode cX12_split 11 = .ok (.iload_n 1, 1) := by decide +kernel
theorem dX12_split_12 : decode cX12_split 12 = .ok (.invokevirtual 78, 3) := by decide +kernel
theorem dX12_split_15 : decode cX12_split 15 = .ok (.istore_n 3, 1) := by decide +kernel
theorem dX12_split_16 : decode cX12_split 16 = .ok (.iload_n 3, 1) := by decide +kernel
theorem dX12_split_17 : decode cX12_split 17 = .ok (.iconst 2, 1) := by decide +kernel
theorem dX12_split_18 : decode cX12_split 18 = .ok (.if_icmp .lt 34, 3) := by decide +kernel
theorem dX12_split_21 : decode cX12_split 21 = .ok (.iload_n 2, 1) := by decide +kernel
theorem dX12_split_22 : decode cX12_split 22 = .ok (.aload_n 0, 1) := by decide +kernel
theorem dX12_split_23 : decode cX12_split 23 = .ok (.iload_n 1, 1) := by decide +kernel
theorem dX12_split_24 : decode cX12_split 24 = .ok (.iconst 0, 1) := by decide +kernel
theorem dX12_split_25 : decode cX12_split 25 = .ok (.invokevirtual 82, 3) := by decide +kernel
theorem dX12_split_28 : decode cX12_split 28 = .ok (.if_icmp .le 24, 3) := by decide +kernel
theorem dX12_split_31 : decode cX12_split 31 = .ok (.iload_n 2, 1) := by decide +kernel
theorem dX12_split_32 : decode cX12_split 32 = .ok (.aload_n 0, 1) := by decide +kernel
theorem dX12_split_33 : decode cX12_split 33 = .ok (.iload_n 1, 1) := by decide +kernel
theorem dX12_split_34 : decode cX12_split 34 = .ok (.iload_n 3, 1) := by decide +kernel
theorem dX12_split_35 : decode cX12_split 35 = .ok (.iconst 1, 1) := by decide +kernel
theorem dX12_split_36 : decode cX12_split 36 = .ok (.isub, 1) := by decide +kernel
theorem dX12_split_37 : decode cX12_split 37 = .ok (.invokevirtual 82, 3) := by decide +kernel
theorem dX12_split_40 : decode cX12_split 40 = .ok (.if_icmp .ge 12, 3) := by decide +kernel
theorem dX12_split_43 : decode cX12_split 43 = .ok (.aload_n 0, 1) := by decide +kernel
theorem dX12_split_44 : decode cX12_split 44 = .ok (.iload_n 1, 1) := by decide +kernel
theorem dX12_split_45 : decode cX12_split 45 = .ok (.iload_n 2, 1) := by decide +kernel
theorem dX12_split_46 : decode cX12_split 46 = .ok (.invokevirtual 142, 3) := by decide +kernel
theorem dX12_split_49 : decode cX12_split 49 = .ok (.ifCond .lt 6, 3) := by decide +kernel
theorem dX12_split_52 : decode cX12_split 52 = .ok (.ldc 132, 2) := by decide +kernel
theorem dX12_split_54 : decode cX12_split 54 = .ok (.ireturn, 1) := by decide +kernel
theorem dX12_split_55 : decode cX12_split 55 = .ok (.iload_n 3, 1) := by decide +kernel
theorem dX12_split_56 : decode cX12_split 56 = .ok (.bipush 24, 2) := by decide +kernel
theorem dX12_split_58 : decode cX12_split 58 = .ok (.if_icmp .ne 6, 3) := by decide +kernel
theorem dX12_split_61 : decode cX12_split 61 = .ok (.ldc 145, 2) := by decide +kernel
theorem dX12_split_63 : decode cX12_split 63 = .ok (.ireturn, 1) := by decide +kernel
theorem dX12_split_64 : decode cX12_split 64 = .ok (.aload_n 0, 1) := by decide +kernel
theorem dX12_split_65 : decode cX12_split 65 = .ok (.invokevirtual 146, 3) := by decide +kernel
theorem dX12_split_68 : decode cX12_split 68 = .ok (.aload_n 0, 1) := by decide +kernel
theorem dX12_split_69 : decode cX12_split 69 = .ok (.iload_n 1, 1) := by decide +kernel
theorem dX12_split_70 : decode cX12_split 70 = .ok (.iload_n 2, 1) := by decide +kernel
theorem dX12_split_71 : decode cX12_split 71 = .ok (.invokevirtual 133, 3) := by decide +kernel
theorem dX12_split_74 : decode cX12_split 74 = .ok (.istore 4, 2) := by decide +kernel
theorem dX12_split_76 : decode cX12_split 76 = .ok (.aload_n 0, 1) := by decide +kernel
theorem dX12_split_77 : decode cX12_split 77 = .ok (.iload_n 1, 1) := by decide +kernel
theorem dX12_split_78 : decode cX12_split 78 = .ok (.iload_n 2, 1) := by decide +kernel
theorem dX12_split_79 : decode cX12_split 79 = .ok (.iconst 1, 1) := by decide +kernel
theorem dX12_split_80 : decode cX12_split 80 = .ok (.iadd, 1) := by decide +kernel
theorem dX12_split_81 : decode cX12_split 81 = .ok (.invokevirtual 133, 3) := by decide +kernel
theorem dX12_split_84 : decode cX12_split 84 = .ok (.i2l, 1) := by decide +kernel
theorem dX12_split_85 : decode cX12_split 85 = .ok (.aload_n 0, 1) := by decide +kernel
theorem dX12_split_86 : decode cX12_split 86 = .ok (.iload_n 1, 1) := by decide +kernel
theorem dX12_split_87 : decode cX12_split 87 = .ok (.iload_n 2, 1) := by decide +kernel
theorem dX12_split_88 : decode cX12_split 88 = .ok (.iconst 1, 1) := by decide +kernel
theorem dX12_split_89 : decode cX12_split 89 = .ok (.isub, 1) := by decide +kernel
theorem dX12_split_90 : decode cX12_split 90 = .ok (.invokevirtual 133, 3) := by decide +kernel
theorem dX12_split_93 : decode cX12_split 93 = .ok (.i2l, 1) := by decide +kernel
theorem dX12_split_94 : decode cX12_split 94 = .ok (.lsub, 1) := by decide +kernel
theorem dX12_split_95 : decode cX12_split 95 = .ok (.ldc2_w 60, 3) := by decide +kernel
theorem dX12_split_98 : decode cX12_split 98 = .ok (.invokestatic 93, 3) := by decide +kernel
theorem dX12_split_101 : decode cX12_split 101 = .ok (.sipush 9999, 3) := by decide +kernel
theorem dX12_split_104 : decode cX12_split 104 = .ok (.invokestatic 108, 3) := by decide +kernel
theorem dX12_split_107 : decode cX12_split 107 = .ok (.istore 5, 2) := by decide +kernel
theorem dX12_split_109 : decode cX12_split 109 = .ok (.iconst 0, 1) := by decide +kernel
theorem dX12_split_110 : decode cX12_split 110 = .ok (.istore 6, 2) := by decide +kernel
theorem dX12_split_112 : decode cX12_split 112 = .ok (.aload_n 0, 1) := by decide +kernel
theorem dX12_split_113 : decode cX12_split 113 = .ok (.iload_n 1, 1) := by decide +kernel
theorem dX12_split_114 : decode cX12_split 114 = .ok (.iload 6, 2) := by decide +kernel
theorem dX12_split_116 : decode cX12_split 116 = .ok (.iconst 1, 1) := by decide +kernel
theorem dX12_split_117 : decode cX12_split 117 = .ok (.iadd, 1) := by decide +kernel
theorem dX12_split_118 : decode cX12_split 118 = .ok (.invokevirtual 82, 3) := by decide +kernel
theorem dX12_split_121 : decode cX12_split 121 = .ok (.iload_n 2, 1) := by decide +kernel
theorem dX12_split_122 : decode cX12_split 122 = .ok (.if_icmp .ge 9, 3) := by decide +kernel
theorem dX12_split_125 : decode cX12_split 125 = .ok (.iinc 6 1, 3) := by decide +kernel
theorem dX12_split_128 : decode cX12_split 128 = .ok (.goto (-16), 3) := by decide +kernel
theorem dX12_split_131 : decode cX12_split 131 = .ok (.aload_n 0, 1) := by decide +kernel
theorem dX12_split_132 : decode cX12_split 132 = .ok (.getfield 7, 3) := by decide +kernel
theorem dX12_split_135 : decode cX12_split 135 = .ok (.iload_n 1, 1) := by decide +kernel
theorem dX12_split_136 : decode cX12_split 136 = .ok (.bipush 52, 2) := by decide +kernel
theorem dX12_split_138 : decode cX12_split 138 = .ok (.iload 6, 2) := by decide +kernel
theorem dX12_split_140 : decode cX12_split 140 = .ok (.invokestatic 70, 3) := by decide +kernel
theorem dX12_split_143 : decode cX12_split 143 = .ok (.iaload, 1) := by decide +kernel
theorem dX12_split_144 : decode cX12_split 144 = .ok (.bipush 6, 2) := by decide +kernel
theorem dX12_split_146 : decode cX12_split 146 = .ok (.if_icmp .ne 7, 3) := by decide +kernel
theorem dX12_split_149 : decode cX12_split 149 = .ok (.iconst 1, 1) := by decide +kernel
theorem dX12_split_150 : decode cX12_split 150 = .ok (.goto 4, 3) := by decide +kernel
theorem dX12_split_153 : decode cX12_split 153 = .ok (.iconst 0, 1) := by decide +kernel
theorem dX12_split_154 : decode cX12_split 154 = .ok (.istore 7, 2) := by decide +kernel
theorem dX12_split_156 : decode cX12_split 156 = .ok (.iload 7, 2) := by decide +kernel
theorem dX12_split_158 : decode cX12_split 158 = .ok (.ifCond .ne 10, 3) := by decide +kernel
theorem dX12_split_161 : decode cX12_split 161 = .ok (.aload_n 0, 1) := by decide +kernel
theorem dX12_split_162 : decode cX12_split 162 = .ok (.iload_n 1, 1) := by decide +kernel
theorem dX12_split_163 : decode cX12_split 163 = .ok (.iload 6, 2) := by decide +kernel
theorem dX12_split_165 : decode cX12_split 165 = .ok (.invokevirtual 158, 3) := by decide +kernel
theorem dX12_split_168 : decode cX12_split 168 = .ok (.aload_n 0, 1) := by decide +kernel
theorem dX12_split_169 : decode cX12_split 169 = .ok (.getfield 7, 3) := by decide +kernel
theorem dX12_split_172 : decode cX12_split 172 = .ok (.iload_n 1, 1) := by decide +kernel
theorem dX12_split_173 : decode cX12_split 173 = .ok (.bipush 52, 2) := by decide +kernel
theorem dX12_split_175 : decode cX12_split 175 = .ok (.iload 6, 2) := by decide +kernel
theorem dX12_split_177 : decode cX12_split 177 = .ok (.iconst 1, 1) := by decide +kernel
theorem dX12_split_178 : decode cX12_split 178 = .ok (.iadd, 1) := by decide +kernel
theorem dX12_split_179 : decode cX12_split 179 = .ok (.invokestatic 70, 3) := by decide +kernel
theorem dX12_split_182 : decode cX12_split 182 = .ok (.iaload, 1) := by decide +kernel
theorem dX12_split_183 : decode cX12_split 183 = .ok (.bipush 6, 2) := by decide +kernel
theorem dX12_split_185 : decode cX12_split 185 = .ok (.if_icmp .eq 12, 3) := by decide +kernel
theorem dX12_split_188 : decode cX12_split 188 = .ok (.aload_n 0, 1) := by decide +kernel
theorem dX12_split_189 : decode cX12_split 189 = .ok (.iload_n 1, 1) := by decide +kernel
theorem dX12_split_190 : decode cX12_split 190 = .ok (.iload 6, 2) := by decide +kernel
theorem dX12_split_192 : decode cX12_split 192 = .ok (.iconst 1, 1) := by decide +kernel
theorem dX12_split_193 : decode cX12_split 193 = .ok (.iadd, 1) := by decide +kernel
theorem dX12_split_194 : decode cX12_split 194 = .ok (.invokevirtual 158, 3) := by decide +kernel
theorem dX12_split_197 : decode cX12_split 197 = .ok (.iload 7, 2) := by decide +kernel
theorem dX12_split_199 : decode cX12_split 199 = .ok (.ifCond .eq 29, 3) := by decide +kernel
theorem dX12_split_202 : decode cX12_split 202 = .ok (.aload_n 0, 1) := by decide +kernel
theorem dX12_split_203 : decode cX12_split 203 = .ok (.iload_n 1, 1) := by decide +kernel
theorem dX12_split_204 : decode cX12_split 204 = .ok (.iload_n 2, 1) := by decide +kernel
theorem dX12_split_205 : decode cX12_split 205 = .ok (.aload_n 0, 1) := by decide +kernel
theorem dX12_split_206 : decode cX12_split 206 = .ok (.getfield 7, 3) := by decide +kernel
theorem dX12_split_209 : decode cX12_split 209 = .ok (.iload_n 1, 1) := by decide +kernel
theorem dX12_split_210 : decode cX12_split 210 = .ok (.bipush 28, 2) := by decide +kernel
theorem dX12_split_212 : decode cX12_split 212 = .ok (.iload 6, 2) := by decide +kernel
theorem dX12_split_214 : decode cX12_split 214 = .ok (.invokestatic 70, 3) := by decide +kernel
theorem dX12_split_217 : decode cX12_split 217 = .ok (.iaload, 1) := by decide +kernel
theorem dX12_split_218 : decode cX12_split 218 = .ok (.bipush 6, 2) := by decide +kernel
theorem dX12_split_220 : decode cX12_split 220 = .ok (.iconst 0, 1) := by decide +kernel
theorem dX12_split_221 : decode cX12_split 221 = .ok (.iconst 0, 1) := by decide +kernel
theorem dX12_split_222 : decode cX12_split 222 = .ok (.invokevirtual 149, 3) := by decide +kernel
theorem dX12_split_225 : decode cX12_split 225 = .ok (.goto 20, 3) := by decide +kernel
theorem dX12_split_228 : decode cX12_split 228 = .ok (.aload_n 0, 1) := by decide +kernel
theorem dX12_split_229 : decode cX12_split 229 = .ok (.iload_n 1, 1) := by decide +kernel
theorem dX12_split_230 : decode cX12_split 230 = .ok (.iload_n 2, 1) := by decide +kernel
theorem dX12_split_231 : decode cX12_split 231 = .ok (.iload 4, 2) := by decide +kernel
theorem dX12_split_233 : decode cX12_split 233 = .ok (.i2l, 1) := by decide +kernel
theorem dX12_split_234 : decode cX12_split 234 = .ok (.invokestatic 161, 3) := by decide +kernel
theorem dX12_split_237 : decode cX12_split 237 = .ok (.iconst 0, 1) := by decide +kernel
theorem dX12_split_238 : decode cX12_split 238 = .ok (.iload 5, 2) := by decide +kernel
theorem dX12_split_240 : decode cX12_split 240 = .ok (.iload 5, 2) := by decide +kernel
theorem dX12_split_242 : decode cX12_split 242 = .ok (.invokevirtual 149, 3) := by decide +kernel
theorem dX12_split_245 : decode cX12_split 245 = .ok (.ireturn, 1) := by decide +kernel
theorem dX12_clear_0 : decode cX12_clear 0 = .ok (.iload_n 1, 1) := by decide +kernel
theorem dX12_clear_1 : decode cX12_clear 1 = .ok (.invokestatic 74, 3) := by decide +kernel
theorem dX12_clear_4 : decode cX12_clear 4 = .ok (.ifCond .ne 6, 3) := by decide +kernel
theorem dX12_clear_7 : decode cX12_clear 7 = .ok (.ldc 131, 2) := by decide +kernel
theorem dX12_clear_9 : decode cX12_clear 9 = .ok (.ireturn, 1) := by decide +kernel
theorem dX12_clear_10 : decode cX12_clear 10 = .ok (.aload_n 0, 1) := by decide +kernel
theorem dX12_clear_11 : decode cX12_clear 11 = .ok (.invokevirtual 146, 3) := by decide +kernel
theorem dX12_clear_14 : decode cX12_clear 14 = .ok (.aload_n 0, 1) := by decide +kernel
theorem dX12_clear_15 : decode cX12_clear 15 = .ok (.iload_n 1, 1) := by decide +kernel
theorem dX12_clear_16 : decode cX12_clear 16 = .ok (.invokevirtual 78, 3) := by decide +kernel
theorem dX12_clear_19 : decode cX12_clear 19 = .ok (.istore_n 2, 1) := by decide +kernel
theorem dX12_clear_20 : decode cX12_clear 20 = .ok (.aload_n 0, 1) := by decide +kernel
theorem dX12_clear_21 : decode cX12_clear 21 = .ok (.getfield 7, 3) := by decide +kernel
theorem dX12_clear_24 : decode cX12_clear 24 = .ok (.iload_n 1, 1) := by decide +kernel
theorem dX12_clear_25 : decode cX12_clear 25 = .ok (.iconst 0, 1) := by decide +kernel
theorem dX12_clear_26 : decode cX12_clear 26 = .ok (.iconst 0, 1) := by decide +kernel
theorem dX12_clear_27 : decode cX12_clear 27 = .ok (.invokestatic 70, 3) := by decide +kernel
theorem dX12_clear_30 : decode cX12_clear 30 = .ok (.iconst 0, 1) := by decide +kernel
theorem dX12_clear_31 : decode cX12_clear 31 = .ok (.iastore, 1) := by decide +kernel
theorem dX12_clear_32 : decode cX12_clear 32 = .ok (.aload_n 0, 1) := by decide +kernel
theorem dX12_clear_33 : decode cX12_clear 33 = .ok (.getfield 7, 3) := by decide +kernel
theorem dX12_clear_36 : decode cX12_clear 36 = .ok (.iload_n 1, 1) := by decide +kernel
theorem dX12_clear_37 : decode cX12_clear 37 = .ok (.iconst 1, 1) := by decide +kernel
theorem dX12_clear_38 : decode cX12_clear 38 = .ok (.iconst 0, 1) := by decide +kernel
theorem dX12_clear_39 : decode cX12_clear 39 = .ok (.invokestatic 70, 3) := by decide +kernel
theorem dX12_clear_42 : decode cX12_clear 42 = .ok (.iconst 0, 1) := by decide +kernel
theorem dX12_clear_43 : decode cX12_clear 43 = .ok (.iastore, 1) := by decide +kernel
theorem dX12_clear_44 : decode cX12_clear 44 = .ok (.aload_n 0, 1) := by decide +kernel
theorem dX12_clear_45 : decode cX12_clear 45 = .ok (.getfield 7, 3) := by decide +kernel
theorem dX12_clear_48 : decode cX12_clear 48 = .ok (.iload_n 1, 1) := by decide +kernel
theorem dX12_clear_49 : decode cX12_clear 49 = .ok (.iconst 2, 1) := by decide +kernel
theorem dX12_clear_50 : decode cX12_clear 50 = .ok (.iconst 0, 1) := by decide +kernel
theorem dX12_clear_51 : decode cX12_clear 51 = .ok (.invokestatic 70, 3) := by decide +kernel
theorem dX12_clear_54 : decode cX12_clear 54 = .ok (.iconst 0, 1) := by decide +kernel
theorem dX12_clear_55 : decode cX12_clear 55 = .ok (.iastore, 1) := by decide +kernel
theorem dX12_clear_56 : decode cX12_clear 56 = .ok (.iload_n 2, 1) := by decide +kernel
theorem dX12_clear_57 : decode cX12_clear 57 = .ok (.ireturn, 1) := by decide +kernel
theorem dX12_setExtrapolation_0 : decode cX12_setExtrapolation 0 = .ok (.iload_n 1, 1) := by decide +kernel
theorem dX12_setExtrapolation_1 : decode cX12_setExtrapolation 1 = .ok (.invokestatic 74, 3) := by decide +kernel
theorem dX12_setExtrapolation_4 : decode cX12_setExtrapolation 4 = .ok (.ifCond .ne 6, 3) := by decide +kernel
theorem dX12_setExtrapolation_7 : decode cX12_setExtrapolation 7 = .ok (.ldc 131, 2) := by decide +kernel
theorem dX12_setExtrapolation_9 : decode cX12_setExtrapolation 9 = .ok (.ireturn, 1) := by decide +kernel
theorem dX12_setExtrapolation_10 : decode cX12_setExtrapolation 10 = .ok (.iload_n 2, 1) := by decide +kernel
theorem dX12_setExtrapolation_11 : decode cX12_setExtrapolation 11 = .ok (.iconst 0, 1) := by decide +kernel
theorem dX12_setExtrapolation_12 : decode cX12_setExtrapolation 12 = .ok (.iconst 4, 1) := by decide +kernel
theorem dX12_setExtrapolation_13 : decode cX12_setExtrapolation 13 = .ok (.invokestatic 66, 3) := by decide +kernel
theorem dX12_setExtrapolation_16 : decode cX12_setExtrapolation 16 = .ok (.ifCond .eq 12, 3) := by decide +kernel
theorem dX12_setExtrapolation_19 : decode cX12_setExtrapolation 19 = .ok (.iload_n 3, 1) := by decide +kernel
theorem dX12_setExtrapolation_20 : decode cX12_setExtrapolation 20 = .ok (.iconst 0, 1) := by decide +kernel
theorem dX12_setExtrapolation_21 : decode cX12_setExtrapolation 21 = .ok (.iconst 4, 1) := by decide +kernel
theorem dX12_setExtrapolation_22 : decode cX12_setExtrapolation 22 = .ok (.invokestatic 66, 3) := by decide +kernel
theorem dX12_setExtrapolation_25 : decode cX12_setExtrapolation 25 = .ok (.ifCond .ne 6, 3) := by decide +kernel
theorem dX12_setExtrapolation_28 : decode cX12_setExtrapolation 28 = .ok (.ldc 132, 2) := by decide +kernel
theorem dX12_setExtrapolation_30 : decode cX12_setExtrapolation 30 = .ok (.ireturn, 1) := by decide +kernel
theorem dX12_setExtrapolation_31 : decode cX12_setExtrapolation 31 = .ok (.aload_n 0, 1) := by decide +kernel
theorem dX12_setExtrapolation_32 : decode cX12_setExtrapolation 32 = .ok (.invokevirtual 146, 3) := by decide +kernel
theorem dX12_setExtrapolation_35 : decode cX12_setExtrapolation 35 = .ok (.bipush 10, 2) := by decide +kernel
theorem dX12_setExtrapolation_37 : decode cX12_setExtrapolation 37 = .ok (.aload_n 0, 1) := by decide +kernel
theorem dX12_setExtrapolation_38 : decode cX12_setExtrapolation 38 = .ok (.getfield 7, 3) := by decide +kernel
theorem dX12_setExtrapolation_41 : decode cX12_setExtrapolation 41 = .ok (.iload_n 1, 1) := by decide +kernel
theorem dX12_setExtrapolation_42 : decode cX12_setExtrapolation 42 = .ok (.iconst 1, 1) := by decide +kernel
theorem dX12_setExtrapolation_43 : decode cX12_setExtrapolation 43 = .ok (.iconst 0, 1) := by decide +kernel
theorem dX12_setExtrapolation_44 : decode cX12_setExtrapolation 44 = .ok (.invokestatic 70, 3) := by decide +kernel
theorem dX12_setExtrapolation_47 : decode cX12_setExtrapolation 47 = .ok (.iaload, 1) := by decide +kernel
theorem dX12_setExtrapolation_48 : decode cX12_setExtrapolation 48 = .ok (.imul, 1) := by decide +kernel
theorem dX12_setExtrapolation_49 : decode cX12_setExtrapolation 49 = .ok (.aload_n 0, 1) := by decide +kernel
theorem dX12_setExtrapolation_50 : decode cX12_setExtrapolation 50 = .ok (.getfield 7, 3) := by decide +kernel
theorem dX12_setExtrapolation_53 : decode cX12_setExtrapolation 53 = .ok (.iload_n 1, 1) := by decide +kernel
theorem dX12_setExtrapolation_54 : decode cX12_setExtrapolation 54 = .ok (.iconst 2, 1) := by decide +kernel
theorem dX12_setExtrapolation_55 : decode cX12_setExtrapolation 55 = .ok (.iconst 0, 1) := by decide +kernel
theorem dX12_setExtrapolation_56 : decode cX12_setExtrapolation 56 = .ok (.invokestatic 70, 3) := by decide +kernel
theorem dX12_setExtrapolation_59 : decode cX12_setExtrapolation 59 = .ok (.iaload, 1) := by decide +kernel
theorem dX12_setExtrapolation_60 : decode cX12_setExtrapolation 60 = .ok (.iadd, 1) := by decide +kernel
theorem dX12_setExtrapolation_61 : decode cX12_setExtrapolation 61 = .ok (.istore 4, 2) := by decide +kernel
theorem dX12_setExtrapolation_63 : decode cX12_setExtrapolation 63 = .ok (.aload_n 0, 1) := by decide +kernel
theorem dX12_setExtrapolation_64 : decode cX12_setExtrapolation 64 = .ok (.getfield 7, 3) := by decide +kernel
theorem dX12_setExtrapolation_67 : decode cX12_setExtrapolation 67 = .ok (.iload_n 1, 1) := by decide +kernel
theorem dX12_setExtrapolation_68 : decode cX12_setExtrapolation 68 = .ok (.iconst 1, 1) := by decide +kernel
theorem dX12_setExtrapolation_69 : decode cX12_setExtrapolation 69 = .ok (.iconst 0, 1) := by decide +kernel
theorem dX12_setExtrapolation_70 : decode cX12_setExtrapolation 70 = .ok (.invokestatic 70, 3) := by decide +kernel
theorem dX12_setExtrapolation_73 : decode cX12_setExtrapolation 73 = .ok (.iload_n 2, 1) := by decide +kernel
theorem dX12_setExtrapolation_74 : decode cX12_setExtrapolation 74 = .ok (.iastore, 1) := by decide +kernel
theorem dX12_setExtrapolation_75 : decode cX12_setExtrapolation 75 = .ok (.aload_n 0, 1) := by decide +kernel
theorem dX12_setExtrapolation_76 : decode cX12_setExtrapolation 76 = .ok (.getfield 7, 3) := by decide +kernel
theorem dX12_setExtrapolation_79 : decode cX12_setExtrapolation 79 = .ok (.iload_n 1, 1) := by decide +kernel
theorem dX12_setExtrapolation_80 : decode cX12_setExtrapolation 80 = .ok (.iconst 2, 1) := by decide +kernel
theorem dX12_setExtrapolation_81 : decode cX12_setExtrapolation 81 = .ok (.iconst 0, 1) := by decide +kernel
theorem dX12_setExtrapolation_82 : decode cX12_setExtrapolation 82 = .ok (.invokestatic 70, 3) := by decide +kernel
theorem dX12_setExtrapolation_85 : decode cX12_setExtrapolation 85 = .ok (.iload_n 3, 1) := by decide +kernel
theorem dX12_setExtrapolation_86 : decode cX12_setExtrapolation 86 = .ok (.iastore, 1) := by decide +kernel
theorem dX12_setExtrapolation_87 : decode cX12_setExtrapolation 87 = .ok (.iload 4, 2) := by decide +kernel
theorem dX12_setExtrapolation_89 : decode cX12_setExtrapolation 89 = .ok (.ireturn, 1) := by decide +kernel
theorem dX12_keys_0 : decode cX12_keys 0 = .ok (.iload_n 1, 1) := by decide +kernel
theorem dX12_keys_1 : decode cX12_keys 1 = .ok (.invokestatic 74, 3) := by decide +kernel
theorem dX12_keys_4 : decode cX12_keys 4 = .ok (.ifCond .eq 11, 3) := by decide +kernel
theorem dX12_keys_7 : decode cX12_keys 7 = .ok (.aload_n 0, 1) := by decide +kernel
theorem dX12_keys_8 : decode cX12_keys 8 = .ok (.iload_n 1, 1) := by decide +kernel
theorem dX12_keys_9 : decode cX12_keys 9 = .ok (.invokevirtual 78, 3) := by decide +kernel
theorem dX12_keys_12 : decode cX12_keys 12 = .ok (.goto 5, 3) := by decide +kernel
theorem dX12_keys_15 : decode cX12_keys 15 = .ok (.ldc 131, 2) := by decide +kernel
theorem dX12_keys_17 : decode cX12_keys 17 = .ok (.ireturn, 1) := by decide +kernel
theorem dX12_frameOf_0 : decode cX12_frameOf 0 = .ok (.aload_n 0, 1) := by decide +kernel
theorem dX12_frameOf_1 : decode cX12_frameOf 1 = .ok (.iload_n 1, 1) := by decide +kernel
theorem dX12_frameOf_2 : decode cX12_frameOf 2 = .ok (.iload_n 2, 1) := by decide +kernel
theorem dX12_frameOf_3 : decode cX12_frameOf 3 = .ok (.invokevirtual 165, 3) := by decide +kernel
theorem dX12_frameOf_6 : decode cX12_frameOf 6 = .ok (.ifCond .eq 12, 3) := by decide +kernel
theorem dX12_frameOf_9 : decode cX12_frameOf 9 = .ok (.aload_n 0, 1) := by decide +kernel
theorem dX12_frameOf_10 : decode cX12_frameOf 10 = .ok (.iload_n 1, 1) := by decide +kernel
theorem dX12_frameOf_11 : decode cX12_frameOf 11 = .ok (.iload_n 2, 1) := by decide +kernel
theorem dX12_frameOf_12 : decode cX12_frameOf 12 = .ok (.invokevirtual 82, 3) := by decide +kernel
theorem dX12_frameOf_15 : decode cX12_frameOf 15 = .ok (.goto 5, 3) := by decide +kernel
theorem dX12_frameOf_18 : decode cX12_frameOf 18 = .ok (.ldc 131, 2) := by decide +kernel
theorem dX12_frameOf_20 : decode cX12_frameOf 20 = .ok (.ireturn, 1) := by decide +kernel
theorem dX12_valueOf_0 : decode cX12_valueOf 0 = .ok (.aload_n 0, 1) := by decide +kernel
theorem dX12_valueOf_1 : decode cX12_valueOf 1 = .ok (.iload_n 1, 1) := by decide +kernel
theorem dX12_valueOf_2 : decode cX12_valueOf 2 = .ok (.iload_n 2, 1) := by decide +kernel
theorem dX12_valueOf_3 : decode cX12_valueOf 3 = .ok (.invokevirtual 165, 3) := by decide +kernel
theorem dX12_valueOf_6 : decode cX12_valueOf 6 = .ok (.ifCond .eq 18, 3) := by decide +kernel
theorem dX12_valueOf_9 : decode cX12_valueOf 9 = .ok (.aload_n 0, 1) := by decide +kernel
theorem dX12_valueOf_10 : decode cX12_valueOf 10 = .ok (.getfield 7, 3) := by decide +kernel
theorem dX12_valueOf_13 : decode cX12_valueOf 13 = .ok (.iload_n 1, 1) := by decide +kernel
theorem dX12_valueOf_14 : decode cX12_valueOf 14 = .ok (.bipush 28, 2) := by decide +kernel
theorem dX12_valueOf_16 : decode cX12_valueOf 16 = .ok (.iload_n 2, 1) := by decide +kernel
theorem dX12_valueOf_17 : decode cX12_valueOf 17 = .ok (.invokestatic 70, 3) := by decide +kernel
theorem dX12_valueOf_20 : decode cX12_valueOf 20 = .ok (.iaload, 1) := by decide +kernel
theorem dX12_valueOf_21 : decode cX12_valueOf 21 = .ok (.goto 5, 3) := by decide +kernel
theorem dX12_valueOf_24 : decode cX12_valueOf 24 = .ok (.ldc 131, 2) := by decide +kernel
theorem dX12_valueOf_26 : decode cX12_valueOf 26 = .ok (.ireturn, 1) := by decide +kernel
theorem dX12_modeOf_0 : decode cX12_modeOf 0 = .ok (.aload_n 0, 1) := by decide +kernel
theorem dX12_modeOf_1 : decode cX12_modeOf 1 = .ok (.iload_n 1, 1) := by decide +kernel
theorem dX12_modeOf_2 : decode cX12_modeOf 2 = .ok (.iload_n 2, 1) := by decide +kernel
theorem dX12_modeOf_3 : decode cX12_modeOf 3 = .ok (.invokevirtual 165, 3) := by decide +kernel
theorem dX12_modeOf_6 : decode cX12_modeOf 6 = .ok (.ifCond .eq 18, 3) := by decide +kernel
theorem dX12_modeOf_9 : decode cX12_modeOf 9 = .ok (.aload_n 0, 1) := by decide +kernel
theorem dX12_modeOf_10 : decode cX12_modeOf 10 = .ok (.getfield 7, 3) := by decide +kernel
theorem dX12_modeOf_13 : decode cX12_modeOf 13 = .ok (.iload_n 1, 1) := by decide +kernel
theorem dX12_modeOf_14 : decode cX12_modeOf 14 = .ok (.bipush 52, 2) := by decide +kernel
theorem dX12_modeOf_16 : decode cX12_modeOf 16 = .ok (.iload_n 2, 1) := by decide +kernel
theorem dX12_modeOf_17 : decode cX12_modeOf 17 = .ok (.invokestatic 70, 3) := by decide +kernel
theorem dX12_modeOf_20 : decode cX12_modeOf 20 = .ok (.iaload, 1) := by decide +kernel
theorem dX12_modeOf_21 : decode cX12_modeOf 21 = .ok (.goto 5, 3) := by decide +kernel
theorem dX12_modeOf_24 : decode cX12_modeOf 24 = .ok (.ldc 131, 2) := by decide +kernel
theorem dX12_modeOf_26 : decode cX12_modeOf 26 = .ok (.ireturn, 1) := by decide +kernel
theorem dX12_slope_0 : decode cX12_slope 0 = .ok (.aload_n 0, 1) := by decide +kernel
theorem dX12_slope_1 : decode cX12_slope 1 = .ok (.iload_n 1, 1) := by decide +kernel
theorem dX12_slope_2 : decode cX12_slope 2 = .ok (.iload_n 2, 1) := by decide +kernel
theorem dX12_slope_3 : decode cX12_slope 3 = .ok (.invokevirtual 165, 3) := by decide +kernel
theorem dX12_slope_6 : decode cX12_slope 6 = .ok (.ifCond .eq 13, 3) := by decide +kernel
theorem dX12_slope_9 : decode cX12_slope 9 = .ok (.aload_n 0, 1) := by decide +kernel
theorem dX12_slope_10 : decode cX12_slope 10 = .ok (.iload_n 1, 1) := by decide +kernel
theorem dX12_slope_11 : decode cX12_slope 11 = .ok (.iload_n 2, 1) := by decide +kernel
theorem dX12_slope_12 : decode cX12_slope 12 = .ok (.iload_n 3, 1) := by decide +kernel
theorem dX12_slope_13 : decode cX12_slope 13 = .ok (.invokevirtual 122, 3) := by decide +kernel
theorem dX12_slope_16 : decode cX12_slope 16 = .ok (.goto 5, 3) := by decide +kernel
theorem dX12_slope_19 : decode cX12_slope 19 = .ok (.ldc 131, 2) := by decide +kernel
theorem dX12_slope_21 : decode cX12_slope 21 = .ok (.ireturn, 1) := by decide +kernel
theorem dX12_addPoint_0 : decode cX12_addPoint 0 = .ok (.aload_n 0, 1) := by decide +kernel
theorem dX12_addPoint_1 : decode cX12_addPoint 1 = .ok (.getfield 7, 3) := by decide +kernel
theorem dX12_addPoint_4 : decode cX12_addPoint 4 = .ok (.sipush 512, 3) := by decide +kernel
theorem dX12_addPoint_7 : decode cX12_addPoint 7 = .ok (.iaload, 1) := by decide +kernel
theorem dX12_addPoint_8 : decode cX12_addPoint 8 = .ok (.istore_n 3, 1) := by decide +kernel
theorem dX12_addPoint_9 : decode cX12_addPoint 9 = .ok (.iload_n 1, 1) := by decide +kernel
theorem dX12_addPoint_10 : decode cX12_addPoint 10 = .ok (.iconst 0, 1) := by decide +kernel
theorem dX12_addPoint_11 : decode cX12_addPoint 11 = .ok (.sipush 480, 3) := by decide +kernel
theorem dX12_addPoint_14 : decode cX12_addPoint 14 = .ok (.invokestatic 66, 3) := by decide +kernel
theorem dX12_addPoint_17 : decode cX12_addPoint 17 = .ok (.ifCond .eq 18, 3) := by decide +kernel
theorem dX12_addPoint_20 : decode cX12_addPoint 20 = .ok (.iload_n 2, 1) := by decide +kernel
theorem dX12_addPoint_21 : decode cX12_addPoint 21 = .ok (.iconst 0, 1) := by decide +kernel
theorem dX12_addPoint_22 : decode cX12_addPoint 22 = .ok (.sipush 480, 3) := by decide +kernel
theorem dX12_addPoint_25 : decode cX12_addPoint 25 = .ok (.invokestatic 66, 3) := by decide +kernel
theorem dX12_addPoint_28 : decode cX12_addPoint 28 = .ok (.ifCond .eq 7, 3) := by decide +kernel
theorem dX12_addPoint_31 : decode cX12_addPoint 31 = .ok (.iconst 1, 1) := by decide +kernel
theorem dX12_addPoint_32 : decode cX12_addPoint 32 = .ok (.goto 4, 3) := by decide +kernel
theorem dX12_addPoint_35 : decode cX12_addPoint 35 = .ok (.iconst 0, 1) := by decide +kernel
theorem dX12_addPoint_36 : decode cX12_addPoint 36 = .ok (.istore 4, 2) := by decide +kernel
theorem dX12_addPoint_38 : decode cX12_addPoint 38 = .ok (.iload 4, 2) := by decide +kernel
theorem dX12_addPoint_40 : decode cX12_addPoint 40 = .ok (.ifCond .eq 39, 3) := by decide +kernel
theorem dX12_addPoint_43 : decode cX12_addPoint 43 = .ok (.iload_n 3, 1) := by decide +kernel
theorem dX12_addPoint_44 : decode cX12_addPoint 44 = .ok (.ifCond .le 38, 3) := by decide +kernel
theorem dX12_addPoint_47 : decode cX12_addPoint 47 = .ok (.iload_n 1, 1) := by decide +kernel
theorem dX12_addPoint_48 : decode cX12_addPoint 48 = .ok (.aload_n 0, 1) := by decide +kernel
theorem dX12_addPoint_49 : decode cX12_addPoint 49 = .ok (.getfield 7, 3) := by decide +kernel
theorem dX12_addPoint_52 : decode cX12_addPoint 52 = .ok (.sipush 513, 3) := by decide +kernel
theorem dX12_addPoint_55 : decode cX12_addPoint 55 = .ok (.iload_n 3, 1) := by decide +kernel
theorem dX12_addPoint_56 : decode cX12_addPoint 56 = .ok (.iadd, 1) := by decide +kernel
theorem dX12_addPoint_57 : decode cX12_addPoint 57 = .ok (.iconst 1, 1) := by decide +kernel
theorem dX12_addPoint_58 : decode cX12_addPoint 58 = .ok (.isub, 1) := by decide +kernel
theorem dX12_addPoint_59 : decode cX12_addPoint 59 = .ok (.iaload, 1) := by decide +kernel
theorem dX12_addPoint_60 : decode cX12_addPoint 60 = .ok (.if_icmp .le 19, 3) := by decide +kernel
theorem dX12_addPoint_63 : decode cX12_addPoint 63 = .ok (.iload_n 2, 1) := by decide +kernel
theorem dX12_addPoint_64 : decode cX12_addPoint 64 = .ok (.aload_n 0, 1) := by decide +kernel
theorem dX12_addPoint_65 : decode cX12_addPoint 65 = .ok (.getfield 7, 3) := by decide +kernel
theorem dX12_addPoint_68 : decode cX12_addPoint 68 = .ok (.sipush 521, 3) := by decide +kernel
theorem dX12_addPoint_71 : decode cX12_addPoint 71 = .ok (.iload_n 3, 1) := by decide +kernel
theorem dX12_addPoint_72 : decode cX12_addPoint 72 = .ok (.iadd, 1) := by decide +kernel
theorem dX12_addPoint_73 : decode cX12_addPoint 73 = .ok (.iconst 1, 1) := by decide +kernel
theorem dX12_addPoint_74 : decode cX12_addPoint 74 = .ok (.isub, 1) := by decide +kernel
theorem dX12_addPoint_75 : decode cX12_addPoint 75 = .ok (.iaload, 1) := by decide +kernel
theorem dX12_addPoint_76 : decode cX12_addPoint 76 = .ok (.if_icmp .gt 6, 3) := by decide +kernel
theorem dX12_addPoint_79 : decode cX12_addPoint 79 = .ok (.ldc 132, 2) := by decide +kernel
theorem dX12_addPoint_81 : decode cX12_addPoint 81 = .ok (.ireturn, 1) := by decide +kernel
theorem dX12_addPoint_82 : decode cX12_addPoint 82 = .ok (.iload_n 3, 1) := by decide +kernel
theorem dX12_addPoint_83 : decode cX12_addPoint 83 = .ok (.bipush 8, 2) := by decide +kernel
theorem dX12_addPoint_85 : decode cX12_addPoint 85 = .ok (.if_icmp .ne 6, 3) := by decide +kernel
theorem dX12_addPoint_88 : decode cX12_addPoint 88 = .ok (.ldc 145, 2) := by decide +kernel
theorem dX12_addPoint_90 : decode cX12_addPoint 90 = .ok (.ireturn, 1) := by decide +kernel
theorem dX12_addPoint_91 : decode cX12_addPoint 91 = .ok (.aload_n 0, 1) := by decide +kernel
theorem dX12_addPoint_92 : decode cX12_addPoint 92 = .ok (.invokevirtual 146, 3) := by decide +kernel
theorem dX12_addPoint_95 : decode cX12_addPoint 95 = .ok (.aload_n 0, 1) := by decide +kernel
theorem dX12_addPoint_96 : decode cX12_addPoint 96 = .ok (.getfield 7, 3) := by decide +kernel
theorem dX12_addPoint_99 : decode cX12_addPoint 99 = .ok (.sipush 513, 3) := by decide +kernel
theorem dX12_addPoint_102 : decode cX12_addPoint 102 = .ok (.iload_n 3, 1) := by decide +kernel
theorem dX12_addPoint_103 : decode cX12_addPoint 103 = .ok (.iadd, 1) := by decide +kernel
theorem dX12_addPoint_104 : decode cX12_addPoint 104 = .ok (.iload_n 1, 1) := by decide +kernel
theorem dX12_addPoint_105 : decode cX12_addPoint 105 = .ok (.iastore, 1) := by decide +kernel
theorem dX12_addPoint_106 : decode cX12_addPoint 106 = .ok (.aload_n 0, 1) := by decide +kernel
theorem dX12_addPoint_107 : decode cX12_addPoint 107 = .ok (.getfield 7, 3) := by decide +kernel
theorem dX12_addPoint_110 : decode cX12_addPoint 110 = .ok (.sipush 521, 3) := by decide +kernel
theorem dX12_addPoint_113 : decode cX12_addPoint 113 = .ok (.iload_n 3, 1) := by decide +kernel
theorem dX12_addPoint_114 : decode cX12_addPoint 114 = .ok (.iadd, 1) := by decide +kernel
theorem dX12_addPoint_115 : decode cX12_addPoint 115 = .ok (.iload_n 2, 1) := by decide +kernel
theorem dX12_addPoint_116 : decode cX12_addPoint 116 = .ok (.iastore, 1) := by decide +kernel
theorem dX12_addPoint_117 : decode cX12_addPoint 117 = .ok (.aload_n 0, 1) := by decide +kernel
theorem dX12_addPoint_118 : decode cX12_addPoint 118 = .ok (.getfield 7, 3) := by decide +kernel
theorem dX12_addPoint_121 : decode cX12_addPoint 121 = .ok (.sipush 512, 3) := by decide +kernel
theorem dX12_addPoint_124 : decode cX12_addPoint 124 = .ok (.dup2, 1) := by decide +kernel
theorem dX12_addPoint_125 : decode cX12_addPoint 125 = .ok (.iaload, 1) := by decide +kernel
theorem dX12_addPoint_126 : decode cX12_addPoint 126 = .ok (.iconst 1, 1) := by decide +kernel
theorem dX12_addPoint_127 : decode cX12_addPoint 127 = .ok (.iadd, 1) := by decide +kernel
theorem dX12_addPoint_128 : decode cX12_addPoint 128 = .ok (.iastore, 1) := by decide +kernel
theorem dX12_addPoint_129 : decode cX12_addPoint 129 = .ok (.iload_n 3, 1) := by decide +kernel
theorem dX12_addPoint_130 : decode cX12_addPoint 130 = .ok (.iconst 1, 1) := by decide +kernel
theorem dX12_addPoint_131 : decode cX12_addPoint 131 = .ok (.iadd, 1) := by decide +kernel
theorem dX12_addPoint_132 : decode cX12_addPoint 132 = .ok (.ireturn, 1) := by decide +kernel
theorem dX12_clearMap_0 : decode cX12_clearMap 0 = .ok (.aload_n 0, 1) := by decide +kernel
theorem dX12_clearMap_1 : decode cX12_clearMap 1 = .ok (.invokevirtual 146, 3) := by decide +kernel
theorem dX12_clearMap_4 : decode cX12_clearMap 4 = .ok (.aload_n 0, 1) := by decide +kernel
theorem dX12_clearMap_5 : decode cX12_clearMap 5 = .ok (.getfield 7, 3) := by decide +kernel
theorem dX12_clearMap_8 : decode cX12_clearMap 8 = .ok (.sipush 512, 3) := by decide +kernel
theorem dX12_clearMap_11 : decode cX12_clearMap 11 = .ok (.iaload, 1) := by decide +kernel
theorem dX12_clearMap_12 : decode cX12_clearMap 12 = .ok (.istore_n 1, 1) := by decide +kernel
theorem dX12_clearMap_13 : decode cX12_clearMap 13 = .ok (.aload_n 0, 1) := by decide +kernel
theorem dX12_clearMap_14 : decode cX12_clearMap 14 = .ok (.getfield 7, 3) := by decide +kernel
theorem dX12_clearMap_17 : decode cX12_clearMap 17 = .ok (.sipush 512, 3) := by decide +kernel
theorem dX12_clearMap_20 : decode cX12_clearMap 20 = .ok (.iconst 0, 1) := by decide +kernel
theorem dX12_clearMap_21 : decode cX12_clearMap 21 = .ok (.iastore, 1) := by decide +kernel
theorem dX12_clearMap_22 : decode cX12_clearMap 22 = .ok (.iload_n 1, 1) := by decide +kernel
theorem dX12_clearMap_23 : decode cX12_clearMap 23 = .ok (.ireturn, 1) := by decide +kernel
theorem dX12_sent_0 : decode cX12_sent 0 = .ok (.aload_n 0, 1) := by decide +kernel
theorem dX12_sent_1 : decode cX12_sent 1 = .ok (.getfield 7, 3) := by decide +kernel
theorem dX12_sent_4 : decode cX12_sent 4 = .ok (.sipush 512, 3) := by decide +kernel
theorem dX12_sent_7 : decode cX12_sent 7 = .ok (.iaload, 1) := by decide +kernel
theorem dX12_sent_8 : decode cX12_sent 8 = .ok (.istore_n 2, 1) := by decide +kernel
theorem dX12_sent_9 : decode cX12_sent 9 = .ok (.iload_n 2, 1) := by decide +kernel
theorem dX12_sent_10 : decode cX12_sent 10 = .ok (.ifCond .ne 5, 3) := by decide +kernel
theorem dX12_sent_13 : decode cX12_sent 13 = .ok (.iload_n 1, 1) := by decide +kernel
theorem dX12_sent_14 : decode cX12_sent 14 = .ok (.ireturn, 1) := by decide +kernel
theorem dX12_sent_15 : decode cX12_sent 15 = .ok (.iload_n 1, 1) := by decide +kernel
theorem dX12_sent_16 : decode cX12_sent 16 = .ok (.aload_n 0, 1) := by decide +kernel
theorem dX12_sent_17 : decode cX12_sent 17 = .ok (.getfield 7, 3) := by decide +kernel
theorem dX12_sent_20 : decode cX12_sent 20 = .ok (.sipush 513, 3) := by decide +kernel
theorem dX12_sent_23 : decode cX12_sent 23 = .ok (.iaload, 1) := by decide +kernel
theorem dX12_sent_24 : decode cX12_sent 24 = .ok (.if_icmp .gt 23, 3) := by decide +kernel
theorem dX12_sent_27 : decode cX12_sent 27 = .ok (.iload_n 1, 1) := by decide +kernel
theorem dX12_sent_28 : decode cX12_sent 28 = .ok (.aload_n 0, 1) := by decide +kernel
theorem dX12_sent_29 : decode cX12_sent 29 = .ok (.getfield 7, 3) := by decide +kernel
theorem dX12_sent_32 : decode cX12_sent 32 = .ok (.sipush 521, 3) := by decide +kernel
theorem dX12_sent_35 : decode cX12_sent 35 = .ok (.iaload, 1) := by decide +kernel
theorem dX12_sent_36 : decode cX12_sent 36 = .ok (.iadd, 1) := by decide +kernel
theorem dX12_sent_37 : decode cX12_sent 37 = .ok (.aload_n 0, 1) := by decide +kernel
theorem dX12_sent_38 : decode cX12_sent 38 = .ok (.getfield 7, 3) := by decide +kernel
theorem dX12_sent_41 : decode cX12_sent 41 = .ok (.sipush 513, 3) := by decide +kernel
theorem dX12_sent_44 : decode cX12_sent 44 = .ok (.iaload, 1) := by decide +kernel
theorem dX12_sent_45 : decode cX12_sent 45 = .ok (.isub, 1) := by decide +kernel
theorem dX12_sent_46 : decode cX12_sent 46 = .ok (.ireturn, 1) := by decide +kernel
theorem dX12_sent_47 : decode cX12_sent 47 = .ok (.iload_n 1, 1) := by decide +kernel
theorem dX12_sent_48 : decode cX12_sent 48 = .ok (.aload_n 0, 1) := by decide +kernel
theorem dX12_sent_49 : decode cX12_sent 49 = .ok (.getfield 7, 3) := by decide +kernel
theorem dX12_sent_52 : decode cX12_sent 52 = .ok (.sipush 513, 3) := by decide +kernel
theorem dX12_sent_55 : decode cX12_sent 55 = .ok (.iload_n 2, 1) := by decide +kernel
theorem dX12_sent_56 : decode cX12_sent 56 = .ok (.iadd, 1) := by decide +kernel
theorem dX12_sent_57 : decode cX12_sent 57 = .ok (.iconst 1, 1) := by decide +kernel
theorem dX12_sent_58 : decode cX12_sent 58 = .ok (.isub, 1) := by decide +kernel
theorem dX12_sent_59 : decode cX12_sent 59 = .ok (.iaload, 1) := by decide +kernel
theorem dX12_sent_60 : decode cX12_sent 60 = .ok (.if_icmp .lt 31, 3) := by decide +kernel
theorem dX12_sent_63 : decode cX12_sent 63 = .ok (.iload_n 1, 1) := by decide +kernel
theorem dX12_sent_64 : decode cX12_sent 64 = .ok (.aload_n 0, 1) := by decide +kernel
theorem dX12_sent_65 : decode cX12_sent 65 = .ok (.getfield 7, 3) := by decide +kernel
theorem dX12_sent_68 : decode cX12_sent 68 = .ok (.sipush 521, 3) := by decide +kernel
theorem dX12_sent_71 : decode cX12_sent 71 = .ok (.iload_n 2, 1) := by decide +kernel
theorem dX12_sent_72 : decode cX12_sent 72 = .ok (.iadd, 1) := by decide +kernel
theorem dX12_sent_73 : decode cX12_sent 73 = .ok (.iconst 1, 1) := by decide +kernel
theorem dX12_sent_74 : decode cX12_sent 74 = .ok (.isub, 1) := by decide +kernel
theorem dX12_sent_75 : decode cX12_sent 75 = .ok (.iaload, 1) := by decide +kernel
theorem dX12_sent_76 : decode cX12_sent 76 = .ok (.iadd, 1) := by decide +kernel
theorem dX12_sent_77 : decode cX12_sent 77 = .ok (.aload_n 0, 1) := by decide +kernel
theorem dX12_sent_78 : decode cX12_sent 78 = .ok (.getfield 7, 3) := by decide +kernel
theorem dX12_sent_81 : decode cX12_sent 81 = .ok (.sipush 513, 3) := by decide +kernel
theorem dX12_sent_84 : decode cX12_sent 84 = .ok (.iload_n 2, 1) := by decide +kernel
theorem dX12_sent_85 : decode cX12_sent 85 = .ok (.iadd, 1) := by decide +kernel
theorem dX12_sent_86 : decode cX12_sent 86 = .ok (.iconst 1, 1) := by decide +kernel
theorem dX12_sent_87 : decode cX12_sent 87 = .ok (.isub, 1) := by decide +kernel
theorem dX12_sent_88 : decode cX12_sent 88 = .ok (.iaload, 1) := by decide +kernel
theorem dX12_sent_89 : decode cX12_sent 89 = .ok (.isub, 1) := by decide +kernel
theorem dX12_sent_90 : decode cX12_sent 90 = .ok (.ireturn, 1) := by decide +kernel
theorem dX12_sent_91 : decode cX12_sent 91 = .ok (.iconst 0, 1) := by decide +kernel
theorem dX12_sent_92 : decode cX12_sent 92 = .ok (.istore_n 3, 1) := by decide +kernel
theorem dX12_sent_93 : decode cX12_sent 93 = .ok (.aload_n 0, 1) := by decide +kernel
theorem dX12_sent_94 : decode cX12_sent 94 = .ok (.getfield 7, 3) := by decide +kernel
theorem dX12_sent_97 : decode cX12_sent 97 = .ok (.sipush 513, 3) := by decide +kernel
theorem dX12_sent_100 : decode cX12_sent 100 = .ok (.iload_n 3, 1) := by decide +kernel
theorem dX12_sent_101 : decode cX12_sent 101 = .ok (.iadd, 1) := by decide +kernel
theorem dX12_sent_102 : decode cX12_sent 102 = .ok (.iconst 1, 1) := by decide +kernel
theorem dX12_sent_103 : decode cX12_sent 103 = .ok (.iadd, 1) := by decide +kernel
theorem dX12_sent_104 : decode cX12_sent 104 = .ok (.iaload, 1) := by decide +kernel
theorem dX12_sent_105 : decode cX12_sent 105 = .ok (.iload_n 1, 1) := by decide +kernel
theorem dX12_sent_106 : decode cX12_sent 106 = .ok (.if_icmp .ge 9, 3) := by decide +kernel
theorem dX12_sent_109 : decode cX12_sent 109 = .ok (.iinc 3 1, 3) := by decide +kernel
theorem dX12_sent_112 : decode cX12_sent 112 = .ok (.goto (-19), 3) := by decide +kernel
theorem dX12_sent_115 : decode cX12_sent 115 = .ok (.iload_n 1, 1) := by decide +kernel
theorem dX12_sent_116 : decode cX12_sent 116 = .ok (.aload_n 0, 1) := by decide +kernel
theorem dX12_sent_117 : decode cX12_sent 117 = .ok (.getfield 7, 3) := by decide +kernel
theorem dX12_sent_120 : decode cX12_sent 120 = .ok (.sipush 513, 3) := by decide +kernel
theorem dX12_sent_123 : decode cX12_sent 123 = .ok (.iload_n 3, 1) := by decide +kernel
theorem dX12_sent_124 : decode cX12_sent 124 = .ok (.iadd, 1) := by decide +kernel
theorem dX12_sent_125 : decode cX12_sent 125 = .ok (.iaload, 1) := by decide +kernel
theorem dX12_sent_126 : decode cX12_sent 126 = .ok (.isub, 1) := by decide +kernel
theorem dX12_sent_127 : decode cX12_sent 127 = .ok (.i2l, 1) := by decide +kernel
theorem dX12_sent_128 : decode cX12_sent 128 = .ok (.aload_n 0, 1) := by decide +kernel
theorem dX12_sent_129 : decode cX12_sent 129 = .ok (.getfield 7, 3) := by decide +kernel
theorem dX12_sent_132 : decode cX12_sent 132 = .ok (.sipush 521, 3) := by decide +kernel
theorem dX12_sent_135 : decode cX12_sent 135 = .ok (.iload_n 3, 1) := by decide +kernel
theorem dX12_sent_136 : decode cX12_sent 136 = .ok (.iadd, 1) := by decide +kernel
theorem dX12_sent_137 : decode cX12_sent 137 = .ok (.iconst 1, 1) := by decide +kernel
theorem dX12_sent_138 : decode cX12_sent 138 = .ok (.iadd, 1) := by decide +kernel
theorem dX12_sent_139 : decode cX12_sent 139 = .ok (.iaload, 1) := by decide +kernel
theorem dX12_sent_140 : decode cX12_sent 140 = .ok (.aload_n 0, 1) := by decide +kernel
theorem dX12_sent_141 : decode cX12_sent 141 = .ok (.getfield 7, 3) := by decide +kernel
theorem dX12_sent_144 : decode cX12_sent 144 = .ok (.sipush 521, 3) := by decide +kernel
theorem dX12_sent_147 : decode cX12_sent 147 = .ok (.iload_n 3, 1) := by decide +kernel
theorem dX12_sent_148 : decode cX12_sent 148 = .ok (.iadd, 1) := by decide +kernel
theorem dX12_sent_149 : decode cX12_sent 149 = .ok (.iaload, 1) := by decide +kernel
theorem dX12_sent_150 : decode cX12_sent 150 = .ok (.isub, 1) := by decide +kernel
theorem dX12_sent_151 : decode cX12_sent 151 = .ok (.i2l, 1) := by decide +kernel
theorem dX12_sent_152 : decode cX12_sent 152 = .ok (.lmul, 1) := by decide +kernel
theorem dX12_sent_153 : decode cX12_sent 153 = .ok (.lstore 4, 2) := by decide +kernel
theorem dX12_sent_155 : decode cX12_sent 155 = .ok (.aload_n 0, 1) := by decide +kernel
theorem dX12_sent_156 : decode cX12_sent 156 = .ok (.getfield 7, 3) := by decide +kernel
theorem dX12_sent_159 : decode cX12_sent 159 = .ok (.sipush 521, 3) := by decide +kernel
theorem dX12_sent_162 : decode cX12_sent 162 = .ok (.iload_n 3, 1) := by decide +kernel
theorem dX12_sent_163 : decode cX12_sent 163 = .ok (.iadd, 1) := by decide +kernel
theorem dX12_sent_164 : decode cX12_sent 164 = .ok (.iaload, 1) := by decide +kernel
theorem dX12_sent_165 : decode cX12_sent 165 = .ok (.lload 4, 2) := by decide +kernel
theorem dX12_sent_167 : decode cX12_sent 167 = .ok (.aload_n 0, 1) := by decide +kernel
theorem dX12_sent_168 : decode cX12_sent 168 = .ok (.getfield 7, 3) := by decide +kernel
theorem dX12_sent_171 : decode cX12_sent 171 = .ok (.sipush 513, 3) := by decide +kernel
theorem dX12_sent_174 : decode cX12_sent 174 = .ok (.iload_n 3, 1) := by decide +kernel
theorem dX12_sent_175 : decode cX12_sent 175 = .ok (.iadd, 1) := by decide +kernel
theorem dX12_sent_176 : decode cX12_sent 176 = .ok (.iconst 1, 1) := by decide +kernel
theorem dX12_sent_177 : decode cX12_sent 177 = .ok (.iadd, 1) := by decide +kernel
theorem dX12_sent_178 : decode cX12_sent 178 = .ok (.iaload, 1) := by decide +kernel
theorem dX12_sent_179 : decode cX12_sent 179 = .ok (.aload_n 0, 1) := by decide +kernel
theorem dX12_sent_180 : decode cX12_sent 180 = .ok (.getfield 7, 3) := by decide +kernel
theorem dX12_sent_183 : decode cX12_sent 183 = .ok (.sipush 513, 3) := by decide +kernel
theorem dX12_sent_186 : decode cX12_sent 186 = .ok (.iload_n 3, 1) := by decide +kernel
theorem dX12_sent_187 : decode cX12_sent 187 = .ok (.iadd, 1) := by decide +kernel
theorem dX12_sent_188 : decode cX12_sent 188 = .ok (.iaload, 1) := by decide +kernel
theorem dX12_sent_189 : decode cX12_sent 189 = .ok (.isub, 1) := by decide +kernel
theorem dX12_sent_190 : decode cX12_sent 190 = .ok (.i2l, 1) := by decide +kernel
theorem dX12_sent_191 : decode cX12_sent 191 = .ok (.invokestatic 93, 3) := by decide +kernel
theorem dX12_sent_194 : decode cX12_sent 194 = .ok (.l2i, 1) := by decide +kernel
theorem dX12_sent_195 : decode cX12_sent 195 = .ok (.iadd, 1) := by decide +kernel
theorem dX12_sent_196 : decode cX12_sent 196 = .ok (.ireturn, 1) := by decide +kernel
theorem dX12_mapped_0 : decode cX12_mapped 0 = .ok (.iload_n 1, 1) := by decide +kernel
theorem dX12_mapped_1 : decode cX12_mapped 1 = .ok (.iconst 0, 1) := by decide +kernel
theorem dX12_mapped_2 : decode cX12_mapped 2 = .ok (.sipush 480, 3) := by decide +kernel
theorem dX12_mapped_5 : decode cX12_mapped 5 = .ok (.invokestatic 66, 3) := by decide +kernel
theorem dX12_mapped_8 : decode cX12_mapped 8 = .ok (.ifCond .eq 11, 3) := by decide +kernel
theorem dX12_mapped_11 : decode cX12_mapped 11 = .ok (.aload_n 0, 1) := by decide +kernel
theorem dX12_mapped_12 : decode cX12_mapped 12 = .ok (.iload_n 1, 1) := by decide +kernel
theorem dX12_mapped_13 : decode cX12_mapped 13 = .ok (.invokevirtual 168, 3) := by decide +kernel
theorem dX12_mapped_16 : decode cX12_mapped 16 = .ok (.goto 5, 3) := by decide +kernel
theorem dX12_mapped_19 : decode cX12_mapped 19 = .ok (.ldc 132, 2) := by decide +kernel
theorem dX12_mapped_21 : decode cX12_mapped 21 = .ok (.ireturn, 1) := by decide +kernel
theorem dX12_stretched_0 : decode cX12_stretched 0 = .ok (.iconst 0, 1) := by decide +kernel
theorem dX12_stretched_1 : decode cX12_stretched 1 = .ok (.istore 4, 2) := by decide +kernel
theorem dX12_stretched_3 : decode cX12_stretched 3 = .ok (.iload 4, 2) := by decide +kernel
theorem dX12_stretched_5 : decode cX12_stretched 5 = .ok (.iconst 1, 1) := by decide +kernel
theorem dX12_stretched_6 : decode cX12_stretched 6 = .ok (.iadd, 1) := by decide +kernel
theorem dX12_stretched_7 : decode cX12_stretched 7 = .ok (.aload_n 0, 1) := by decide +kernel
theorem dX12_stretched_8 : decode cX12_stretched 8 = .ok (.getfield 7, 3) := by decide +kernel
theorem dX12_stretched_11 : decode cX12_stretched 11 = .ok (.sipush 512, 3) := by decide +kernel
theorem dX12_stretched_14 : decode cX12_stretched 14 = .ok (.iaload, 1) := by decide +kernel
theorem dX12_stretched_15 : decode cX12_stretched 15 = .ok (.if_icmp .ge 113, 3) := by decide +kernel
theorem dX12_stretched_18 : decode cX12_stretched 18 = .ok (.aload_n 0, 1) := by decide +kernel
theorem dX12_stretched_19 : decode cX12_stretched 19 = .ok (.getfield 7, 3) := by decide +kernel
theorem dX12_stretched_22 : decode cX12_stretched 22 = .ok (.sipush 513, 3) := by decide +kernel
theorem dX12_stretched_25 : decode cX12_stretched 25 = .ok (.iload 4, 2) := by decide +kernel
theorem dX12_stretched_27 : decode cX12_stretched 27 = .ok (.iadd, 1) := by decide +kernel
theorem dX12_stretched_28 : decode cX12_stretched 28 = .ok (.iaload, 1) := by decide +kernel
theorem dX12_stretched_29 : decode cX12_stretched 29 = .ok (.istore 5, 2) := by decide +kernel
theorem dX12_stretched_31 : decode cX12_stretched 31 = .ok (.aload_n 0, 1) := by decide +kernel
theorem dX12_stretched_32 : decode cX12_stretched 32 = .ok (.getfield 7, 3) := by decide +kernel
theorem dX12_stretched_35 : decode cX12_stretched 35 = .ok (.sipush 513, 3) := by decide +kernel
theorem dX12_stretched_38 : decode cX12_stretched 38 = .ok (.iload 4, 2) := by decide +kernel
theorem dX12_stretched_40 : decode cX12_stretched 40 = .ok (.iadd, 1) := by decide +kernel
theorem dX12_stretched_41 : decode cX12_stretched 41 = .ok (.iconst 1, 1) := by decide +kernel
theorem dX12_stretched_42 : decode cX12_stretched 42 = .ok (.iadd, 1) := by decide +kernel
theorem dX12_stretched_43 : decode cX12_stretched 43 = .ok (.iaload, 1) := by decide +kernel
theorem dX12_stretched_44 : decode cX12_stretched 44 = .ok (.istore 6, 2) := by decide +kernel
theorem dX12_stretched_46 : decode cX12_stretched 46 = .ok (.iload_n 3, 1) := by decide +kernel
theorem dX12_stretched_47 : decode cX12_stretched 47 = .ok (.ifCond .eq 18, 3) := by decide +kernel
theorem dX12_stretched_50 : decode cX12_stretched 50 = .ok (.iload 5, 2) := by decide +kernel
theorem dX12_stretched_52 : decode cX12_stretched 52 = .ok (.iload_n 2, 1) := by decide +kernel
theorem dX12_stretched_53 : decode cX12_stretched 53 = .ok (.if_icmp .gt 69, 3) := by decide +kernel
theorem dX12_stretched_56 : decode cX12_stretched 56 = .ok (.iload_n 2, 1) := by decide +kernel
theorem dX12_stretched_57 : decode cX12_stretched 57 = .ok (.iload 6, 2) := by decide +kernel
theorem dX12_stretched_59 : decode cX12_stretched 59 = .ok (.if_icmp .ge 63, 3) := by decide +kernel
theorem dX12_stretched_62 : decode cX12_stretched 62 = .ok (.goto 15, 3) := by decide +kernel
theorem dX12_stretched_65 : decode cX12_stretched 65 = .ok (.iload 5, 2) := by decide +kernel
theorem dX12_stretched_67 : decode cX12_stretched 67 = .ok (.iload_n 2, 1) := by decide +kernel
theorem dX12_stretched_68 : decode cX12_stretched 68 = .ok (.if_icmp .ge 54, 3) := by decide +kernel
theorem dX12_stretched_71 : decode cX12_stretched 71 = .ok (.iload_n 2, 1) := by decide +kernel
theorem dX12_stretched_72 : decode cX12_stretched 72 = .ok (.iload 6, 2) := by decide +kernel
theorem dX12_stretched_74 : decode cX12_stretched 74 = .ok (.if_icmp .gt 48, 3) := by decide +kernel
theorem dX12_stretched_77 : decode cX12_stretched 77 = .ok (.iload_n 1, 1) := by decide +kernel
theorem dX12_stretched_78 : decode cX12_stretched 78 = .ok (.i2l, 1) := by decide +kernel
theorem dX12_stretched_79 : decode cX12_stretched 79 = .ok (.iload 6, 2) := by decide +kernel
theorem dX12_stretched_81 : decode cX12_stretched 81 = .ok (.iload 5, 2) := by decide +kernel
theorem dX12_stretched_83 : decode cX12_stretched 83 = .ok (.isub, 1) := by decide +kernel
theorem dX12_stretched_84 : decode cX12_stretched 84 = .ok (.i2l, 1) := by decide +kernel
theorem dX12_stretched_85 : decode cX12_stretched 85 = .ok (.lmul, 1) := by decide +kernel
theorem dX12_stretched_86 : decode cX12_stretched 86 = .ok (.aload_n 0, 1) := by decide +kernel
theorem dX12_stretched_87 : decode cX12_stretched 87 = .ok (.getfield 7, 3) := by decide +kernel
theorem dX12_stretched_90 : decode cX12_stretched 90 = .ok (.sipush 521, 3) := by decide +kernel
theorem dX12_stretched_93 : decode cX12_stretched 93 = .ok (.iload 4, 2) := by decide +kernel
theorem dX12_stretched_95 : decode cX12_stretched 95 = .ok (.iadd, 1) := by decide +kernel
theorem dX12_stretched_96 : decode cX12_stretched 96 = .ok (.iconst 1, 1) := by decide +kernel
theorem dX12_stretched_97 : decode cX12_stretched 97 = .ok (.iadd, 1) := by decide +kernel
theorem dX12_stretched_98 : decode cX12_stretched 98 = .ok (.iaload, 1) := by decide +kernel
theorem dX12_stretched_99 : decode cX12_stretched 99 = .ok (.aload_n 0, 1) := by decide +kernel
theorem dX12_stretched_100 : decode cX12_stretched 100 = .ok (.getfield 7, 3) := by decide +kernel
theorem dX12_stretched_103 : decode cX12_stretched 103 = .ok (.sipush 521, 3) := by decide +kernel
theorem dX12_stretched_106 : decode cX12_stretched 106 = .ok (.iload 4, 2) := by decide +kernel
theorem dX12_stretched_108 : decode cX12_stretched 108 = .ok (.iadd, 1) := by decide +kernel
theorem dX12_stretched_109 : decode cX12_stretched 109 = .ok (.iaload, 1) := by decide +kernel
theorem dX12_stretched_110 : decode cX12_stretched 110 = .ok (.isub, 1) := by decide +kernel
theorem dX12_stretched_111 : decode cX12_stretched 111 = .ok (.i2l, 1) := by decide +kernel
theorem dX12_stretched_112 : decode cX12_stretched 112 = .ok (.invokestatic 93, 3) := by decide +kernel
theorem dX12_stretched_115 : decode cX12_stretched 115 = .ok (.sipush 9999, 3) := by decide +kernel
theorem dX12_stretched_118 : decode cX12_stretched 118 = .ok (.invokestatic 108, 3) := by decide +kernel
theorem dX12_stretched_121 : decode cX12_stretched 121 = .ok (.ireturn, 1) := by decide +kernel
theorem dX12_stretched_122 : decode cX12_stretched 122 = .ok (.iinc 4 1, 3) := by decide +kernel
theorem dX12_stretched_125 : decode cX12_stretched 125 = .ok (.goto (-122), 3) := by decide +kernel
theorem dX12_stretched_128 : decode cX12_stretched 128 = .ok (.iload_n 1, 1) := by decide +kernel
theorem dX12_stretched_129 : decode cX12_stretched 129 = .ok (.ireturn, 1) := by decide +kernel
theorem dX12_retime_0 : decode cX12_retime 0 = .ok (.iload_n 1, 1) := by decide +kernel
theorem dX12_retime_1 : decode cX12_retime 1 = .ok (.invokestatic 74, 3) := by decide +kernel
theorem dX12_retime_4 : decode cX12_retime 4 = .ok (.ifCond .ne 6, 3) := by decide +kernel
theorem dX12_retime_7 : decode cX12_retime 7 = .ok (.ldc 131, 2) := by decide +kernel
theorem dX12_retime_9 : decode cX12_retime 9 = .ok (.ireturn, 1) := by decide +kernel
theorem dX12_retime_10 : decode cX12_retime 10 = .ok (.iconst 0, 1) := by decide +kernel
theorem dX12_retime_11 : decode cX12_retime 11 = .ok (.istore_n 2, 1) := by decide +kernel
theorem dX12_retime_12 : decode cX12_retime 12 = .ok (.iload_n 2, 1) := by decide +kernel
theorem dX12_retime_13 : decode cX12_retime 13 = .ok (.aload_n 0, 1) := by decide +kernel
theorem dX12_retime_14 : decode cX12_retime 14 = .ok (.iload_n 1, 1) := by decide +kernel
theorem dX12_retime_15 : decode cX12_retime 15 = .ok (.invokevirtual 78, 3) := by decide +kernel
theorem dX12_retime_18 : decode cX12_retime 18 = .ok (.if_icmp .ge 54, 3) := by decide +kernel
theorem dX12_retime_21 : decode cX12_retime 21 = .ok (.aload_n 0, 1) := by decide +kernel
theorem dX12_retime_22 : decode cX12_retime 22 = .ok (.aload_n 0, 1) := by decide +kernel
theorem dX12_retime_23 : decode cX12_retime 23 = .ok (.iload_n 1, 1) := by decide +kernel
theorem dX12_retime_24 : decode cX12_retime 24 = .ok (.iload_n 2, 1) := by decide +kernel
theorem dX12_retime_25 : decode cX12_retime 25 = .ok (.invokevirtual 82, 3) := by decide +kernel
theorem dX12_retime_28 : decode cX12_retime 28 = .ok (.invokevirtual 168, 3) := by decide +kernel
theorem dX12_retime_31 : decode cX12_retime 31 = .ok (.istore_n 3, 1) := by decide +kernel
theorem dX12_retime_32 : decode cX12_retime 32 = .ok (.iload_n 3, 1) := by decide +kernel
theorem dX12_retime_33 : decode cX12_retime 33 = .ok (.iconst 0, 1) := by decide +kernel
theorem dX12_retime_34 : decode cX12_retime 34 = .ok (.sipush 480, 3) := by decide +kernel
theorem dX12_retime_37 : decode cX12_retime 37 = .ok (.invokestatic 66, 3) := by decide +kernel
theorem dX12_retime_40 : decode cX12_retime 40 = .ok (.ifCond .eq 23, 3) := by decide +kernel
theorem dX12_retime_43 : decode cX12_retime 43 = .ok (.iload_n 2, 1) := by decide +kernel
theorem dX12_retime_44 : decode cX12_retime 44 = .ok (.ifCond .le 22, 3) := by decide +kernel
theorem dX12_retime_47 : decode cX12_retime 47 = .ok (.aload_n 0, 1) := by decide +kernel
theorem dX12_retime_48 : decode cX12_retime 48 = .ok (.aload_n 0, 1) := by decide +kernel
theorem dX12_retime_49 : decode cX12_retime 49 = .ok (.iload_n 1, 1) := by decide +kernel
theorem dX12_retime_50 : decode cX12_retime 50 = .ok (.iload_n 2, 1) := by decide +kernel
theorem dX12_retime_51 : decode cX12_retime 51 = .ok (.iconst 1, 1) := by decide +kernel
theorem dX12_retime_52 : decode cX12_retime 52 = .ok (.isub, 1) := by decide +kernel
theorem dX12_retime_53 : decode cX12_retime 53 = .ok (.invokevirtual 82, 3) := by decide +kernel
theorem dX12_retime_56 : decode cX12_retime 56 = .ok (.invokevirtual 168, 3) := by decide +kernel
theorem dX12_retime_59 : decode cX12_retime 59 = .ok (.iload_n 3, 1) := by decide +kernel
theorem dX12_retime_60 : decode cX12_retime 60 = .ok (.if_icmp .ne 6, 3) := by decide +kernel
theorem dX12_retime_63 : decode cX12_retime 63 = .ok (.ldc 157, 2) := by decide +kernel
theorem dX12_retime_65 : decode cX12_retime 65 = .ok (.ireturn, 1) := by decide +kernel
theorem dX12_retime_66 : decode cX12_retime 66 = .ok (.iinc 2 1, 3) := by decide +kernel
theorem dX12_retime_69 : decode cX12_retime 69 = .ok (.goto (-57), 3) := by decide +kernel
theorem dX12_retime_72 : decode cX12_retime 72 = .ok (.aload_n 0, 1) := by decide +kernel
theorem dX12_retime_73 : decode cX12_retime 73 = .ok (.invokevirtual 146, 3) := by decide +kernel
theorem dX12_retime_76 : decode cX12_retime 76 = .ok (.iconst 0, 1) := by decide +kernel
theorem dX12_retime_77 : decode cX12_retime 77 = .ok (.istore_n 2, 1) := by decide +kernel
theorem dX12_retime_78 : decode cX12_retime 78 = .ok (.iconst 0, 1) := by decide +kernel
theorem dX12_retime_79 : decode cX12_retime 79 = .ok (.istore_n 3, 1) := by decide +kernel
theorem dX12_retime_80 : decode cX12_retime 80 = .ok (.iload_n 3, 1) := by decide +kernel
theorem dX12_retime_81 : decode cX12_retime 81 = .ok (.aload_n 0, 1) := by decide +kernel
theorem dX12_retime_82 : decode cX12_retime 82 = .ok (.iload_n 1, 1) := by decide +kernel
theorem dX12_retime_83 : decode cX12_retime 83 = .ok (.invokevirtual 78, 3) := by decide +kernel
theorem dX12_retime_86 : decode cX12_retime 86 = .ok (.if_icmp .ge 130, 3) := by decide +kernel
theorem dX12_retime_89 : decode cX12_retime 89 = .ok (.aload_n 0, 1) := by decide +kernel
theorem dX12_retime_90 : decode cX12_retime 90 = .ok (.iload_n 1, 1) := by decide +kernel
theorem dX12_retime_91 : decode cX12_retime 91 = .ok (.iload_n 3, 1) := by decide +kernel
theorem dX12_retime_92 : decode cX12_retime 92 = .ok (.invokevirtual 82, 3) := by decide +kernel
theorem dX12_retime_95 : decode cX12_retime 95 = .ok (.istore 4, 2) := by decide +kernel
theorem dX12_retime_97 : decode cX12_retime 97 = .ok (.aload_n 0, 1) := by decide +kernel
theorem dX12_retime_98 : decode cX12_retime 98 = .ok (.iload 4, 2) := by decide +kernel
theorem dX12_retime_100 : decode cX12_retime 100 = .ok (.invokevirtual 168, 3) := by decide +kernel
theorem dX12_retime_103 : decode cX12_retime 103 = .ok (.istore 5, 2) := by decide +kernel
theorem dX12_retime_105 : decode cX12_retime 105 = .ok (.aload_n 0, 1) := by decide +kernel
theorem dX12_retime_106 : decode cX12_retime 106 = .ok (.getfield 7, 3) := by decide +kernel
theorem dX12_retime_109 : decode cX12_retime 109 = .ok (.iload_n 1, 1) := by decide +kernel
theorem dX12_retime_110 : decode cX12_retime 110 = .ok (.bipush 52, 2) := by decide +kernel
theorem dX12_retime_112 : decode cX12_retime 112 = .ok (.iload_n 3, 1) := by decide +kernel
theorem dX12_retime_113 : decode cX12_retime 113 = .ok (.invokestatic 70, 3) := by decide +kernel
theorem dX12_retime_116 : decode cX12_retime 116 = .ok (.iaload, 1) := by decide +kernel
theorem dX12_retime_117 : decode cX12_retime 117 = .ok (.ifCond .ne 65, 3) := by decide +kernel
theorem dX12_retime_120 : decode cX12_retime 120 = .ok (.aload_n 0, 1) := by decide +kernel
theorem dX12_retime_121 : decode cX12_retime 121 = .ok (.getfield 7, 3) := by decide +kernel
theorem dX12_retime_124 : decode cX12_retime 124 = .ok (.iload_n 1, 1) := by decide +kernel
theorem dX12_retime_125 : decode cX12_retime 125 = .ok (.bipush 76, 2) := by decide +kernel
theorem dX12_retime_127 : decode cX12_retime 127 = .ok (.iload_n 3, 1) := by decide +kernel
theorem dX12_retime_128 : decode cX12_retime 128 = .ok (.invokestatic 70, 3) := by decide +kernel
theorem dX12_retime_131 : decode cX12_retime 131 = .ok (.aload_n 0, 1) := by decide +kernel
theorem dX12_retime_132 : decode cX12_retime 132 = .ok (.aload_n 0, 1) := by decide +kernel
theorem dX12_retime_133 : decode cX12_retime 133 = .ok (.getfield 7, 3) := by decide +kernel
theorem dX12_retime_136 : decode cX12_retime 136 = .ok (.iload_n 1, 1) := by decide +kernel
theorem dX12_retime_137 : decode cX12_retime 137 = .ok (.bipush 76, 2) := by decide +kernel
theorem dX12_retime_139 : decode cX12_retime 139 = .ok (.iload_n 3, 1) := by decide +kernel
theorem dX12_retime_140 : decode cX12_retime 140 = .ok (.invokestatic 70, 3) := by decide +kernel
theorem dX12_retime_143 : decode cX12_retime 143 = .ok (.iaload, 1) := by decide +kernel
theorem dX12_retime_144 : decode cX12_retime 144 = .ok (.iload 4, 2) := by decide +kernel
theorem dX12_retime_146 : decode cX12_retime 146 = .ok (.iconst 0, 1) := by decide +kernel
theorem dX12_retime_147 : decode cX12_retime 147 = .ok (.invokevirtual 171, 3) := by decide +kernel
theorem dX12_retime_150 : decode cX12_retime 150 = .ok (.iastore, 1) := by decide +kernel
theorem dX12_retime_151 : decode cX12_retime 151 = .ok (.aload_n 0, 1) := by decide +kernel
theorem dX12_retime_152 : decode cX12_retime 152 = .ok (.getfield 7, 3) := by decide +kernel
theorem dX12_retime_155 : decode cX12_retime 155 = .ok (.iload_n 1, 1) := by decide +kernel
theorem dX12_retime_156 : decode cX12_retime 156 = .ok (.bipush 100, 2) := by decide +kernel
theorem dX12_retime_158 : decode cX12_retime 158 = .ok (.iload_n 3, 1) := by decide +kernel
theorem dX12_retime_159 : decode cX12_retime 159 = .ok (.invokestatic 70, 3) := by decide +kernel
theorem dX12_retime_162 : decode cX12_retime 162 = .ok (.aload_n 0, 1) := by decide +kernel
theorem dX12_retime_163 : decode cX12_retime 163 = .ok (.aload_n 0, 1) := by decide +kernel
theorem dX12_retime_164 : decode cX12_retime 164 = .ok (.getfield 7, 3) := by decide +kernel
theorem dX12_retime_167 : decode cX12_retime 167 = .ok (.iload_n 1, 1) := by decide +kernel
theorem dX12_retime_168 : decode cX12_retime 168 = .ok (.bipush 100, 2) := by decide +kernel
theorem dX12_retime_170 : decode cX12_retime 170 = .ok (.iload_n 3, 1) := by decide +kernel
theorem dX12_retime_171 : decode cX12_retime 171 = .ok (.invokestatic 70, 3) := by decide +kernel
theorem dX12_retime_174 : decode cX12_retime 174 = .ok (.iaload, 1) := by decide +kernel
theorem dX12_retime_175 : decode cX12_retime 175 = .ok (.iload 4, 2) := by decide +kernel
theorem dX12_retime_177 : decode cX12_retime 177 = .ok (.iconst 1, 1) := by decide +kernel
theorem dX12_retime_178 : decode cX12_retime 178 = .ok (.invokevirtual 171, 3) := by decide +kernel
theorem dX12_retime_181 : decode cX12_retime 181 = .ok (.iastore, 1) := by decide +kernel
theorem dX12_retime_182 : decode cX12_retime 182 = .ok (.aload_n 0, 1) := by decide +kernel
theorem dX12_retime_183 : decode cX12_retime 183 = .ok (.getfield 7, 3) := by decide +kernel
theorem dX12_retime_186 : decode cX12_retime 186 = .ok (.iload_n 1, 1) := by decide +kernel
theorem dX12_retime_187 : decode cX12_retime 187 = .ok (.iconst 4, 1) := by decide +kernel
theorem dX12_retime_188 : decode cX12_retime 188 = .ok (.iload_n 3, 1) := by decide +kernel
theorem dX12_retime_189 : decode cX12_retime 189 = .ok (.invokestatic 70, 3) := by decide +kernel
theorem dX12_retime_192 : decode cX12_retime 192 = .ok (.iload 5, 2) := by decide +kernel
theorem dX12_retime_194 : decode cX12_retime 194 = .ok (.iastore, 1) := by decide +kernel
theorem dX12_retime_195 : decode cX12_retime 195 = .ok (.iload_n 2, 1) := by decide +kernel
theorem dX12_retime_196 : decode cX12_retime 196 = .ok (.iload 5, 2) := by decide +kernel
theorem dX12_retime_198 : decode cX12_retime 198 = .ok (.iload 4, 2) := by decide +kernel
theorem dX12_retime_200 : decode cX12_retime 200 = .ok (.if_icmp .ne 7, 3) := by decide +kernel
theorem dX12_retime_203 : decode cX12_retime 203 = .ok (.iconst 0, 1) := by decide +kernel
theorem dX12_retime_204 : decode cX12_retime 204 = .ok (.goto 4, 3) := by decide +kernel
theorem dX12_retime_207 : decode cX12_retime 207 = .ok (.iconst 1, 1) := by decide +kernel
theorem dX12_retime_208 : decode cX12_retime 208 = .ok (.iadd, 1) := by decide +kernel
theorem dX12_retime_209 : decode cX12_retime 209 = .ok (.istore_n 2, 1) := by decide +kernel
theorem dX12_retime_210 : decode cX12_retime 210 = .ok (.iinc 3 1, 3) := by decide +kernel
theorem dX12_retime_213 : decode cX12_retime 213 = .ok (.goto (-133), 3) := by decide +kernel
theorem dX12_retime_216 : decode cX12_retime 216 = .ok (.iload_n 2, 1) := by decide +kernel
theorem dX12_retime_217 : decode cX12_retime 217 = .ok (.ireturn, 1) := by decide +kernel
theorem dX12_outside_0 : decode cX12_outside 0 = .ok (.iconst 0, 1) := by decide +kernel
theorem dX12_outside_1 : decode cX12_outside 1 = .ok (.istore 4, 2) := by decide +kernel
theorem dX12_outside_3 : decode cX12_outside 3 = .ok (.iconst 0, 1) := by decide +kernel
theorem dX12_outside_4 : decode cX12_outside 4 = .ok (.istore 5, 2) := by decide +kernel
theorem dX12_outside_6 : decode cX12_outside 6 = .ok (.iload 5, 2) := by decide +kernel
theorem dX12_outside_8 : decode cX12_outside 8 = .ok (.aload_n 0, 1) := by decide +kernel
theorem dX12_outside_9 : decode cX12_outside 9 = .ok (.iload_n 1, 1) := by decide +kernel
theorem dX12_outside_10 : decode cX12_outside 10 = .ok (.invokevirtual 78, 3) := by decide +kernel
theorem dX12_outside_13 : decode cX12_outside 13 = .ok (.if_icmp .ge 34, 3) := by decide +kernel
theorem dX12_outside_16 : decode cX12_outside 16 = .ok (.iload 4, 2) := by decide +kernel
theorem dX12_outside_18 : decode cX12_outside 18 = .ok (.aload_n 0, 1) := by decide +kernel
theorem dX12_outside_19 : decode cX12_outside 19 = .ok (.iload_n 1, 1) := by decide +kernel
theorem dX12_outside_20 : decode cX12_outside 20 = .ok (.iload 5, 2) := by decide +kernel
theorem dX12_outside_22 : decode cX12_outside 22 = .ok (.invokevirtual 82, 3) := by decide +kernel
theorem dX12_outside_25 : decode cX12_outside 25 = .ok (.iload_n 2, 1) := by decide +kernel
theorem dX12_outside_26 : decode cX12_outside 26 = .ok (.iload_n 3, 1) := by decide +kernel
theorem dX12_outside_27 : decode cX12_outside 27 = .ok (.invokestatic 66, 3) := by decide +kernel
theorem dX12_outside_30 : decode cX12_outside 30 = .ok (.ifCond .eq 7, 3) := by decide +kernel
theorem dX12_outside_33 : decode cX12_outside 33 = .ok (.iconst 0, 1) := by decide +kernel
theorem dX12_outside_34 : decode cX12_outside 34 = .ok (.goto 4, 3) := by decide +kernel
theorem dX12_outside_37 : decode cX12_outside 37 = .ok (.iconst 1, 1) := by decide +kernel
theorem dX12_outside_38 : decode cX12_outside 38 = .ok (.iadd, 1) := by decide +kernel
theorem dX12_outside_39 : decode cX12_outside 39 = .ok (.istore 4, 2) := by decide +kernel
theorem dX12_outside_41 : decode cX12_outside 41 = .ok (.iinc 5 1, 3) := by decide +kernel
theorem dX12_outside_44 : decode cX12_outside 44 = .ok (.goto (-38), 3) := by decide +kernel
theorem dX12_outside_47 : decode cX12_outside 47 = .ok (.iload 4, 2) := by decide +kernel
theorem dX12_outside_49 : decode cX12_outside 49 = .ok (.ireturn, 1) := by decide +kernel
theorem dX12_bakes_0 : decode cX12_bakes 0 = .ok (.aload_n 0, 1) := by decide +kernel
theorem dX12_bakes_1 : decode cX12_bakes 1 = .ok (.iload_n 1, 1) := by decide +kernel
theorem dX12_bakes_2 : decode cX12_bakes 2 = .ok (.invokevirtual 78, 3) := by decide +kernel
theorem dX12_bakes_5 : decode cX12_bakes 5 = .ok (.iconst 1, 1) := by decide +kernel
theorem dX12_bakes_6 : decode cX12_bakes 6 = .ok (.isub, 1) := by decide +kernel
theorem dX12_bakes_7 : decode cX12_bakes 7 = .ok (.istore 5, 2) := by decide +kernel
theorem dX12_bakes_9 : decode cX12_bakes 9 = .ok (.iload 5, 2) := by decide +kernel
theorem dX12_bakes_11 : decode cX12_bakes 11 = .ok (.ifCond .lt 31, 3) := by decide +kernel
theorem dX12_bakes_14 : decode cX12_bakes 14 = .ok (.aload_n 0, 1) := by decide +kernel
theorem dX12_bakes_15 : decode cX12_bakes 15 = .ok (.iload_n 1, 1) := by decide +kernel
theorem dX12_bakes_16 : decode cX12_bakes 16 = .ok (.iload 5, 2) := by decide +kernel
theorem dX12_bakes_18 : decode cX12_bakes 18 = .ok (.invokevirtual 82, 3) := by decide +kernel
theorem dX12_bakes_21 : decode cX12_bakes 21 = .ok (.iload_n 2, 1) := by decide +kernel
theorem dX12_bakes_22 : decode cX12_bakes 22 = .ok (.iload_n 3, 1) := by decide +kernel
theorem dX12_bakes_23 : decode cX12_bakes 23 = .ok (.invokestatic 66, 3) := by decide +kernel
theorem dX12_bakes_26 : decode cX12_bakes 26 = .ok (.ifCond .eq 10, 3) := by decide +kernel
theorem dX12_bakes_29 : decode cX12_bakes 29 = .ok (.aload_n 0, 1) := by decide +kernel
theorem dX12_bakes_30 : decode cX12_bakes 30 = .ok (.iload_n 1, 1) := by decide +kernel
theorem dX12_bakes_31 : decode cX12_bakes 31 = .ok (.iload 5, 2) := by decide +kernel
theorem dX12_bakes_33 : decode cX12_bakes 33 = .ok (.invokevirtual 153, 3) := by decide +kernel
theorem dX12_bakes_36 : decode cX12_bakes 36 = .ok (.iinc 5 (-1), 3) := by decide +kernel
theorem dX12_bakes_39 : decode cX12_bakes 39 = .ok (.goto (-30), 3) := by decide +kernel
theorem dX12_bakes_42 : decode cX12_bakes 42 = .ok (.iload_n 2, 1) := by decide +kernel
theorem dX12_bakes_43 : decode cX12_bakes 43 = .ok (.istore 5, 2) := by decide +kernel
theorem dX12_bakes_45 : decode cX12_bakes 45 = .ok (.iload 5, 2) := by decide +kernel
theorem dX12_bakes_47 : decode cX12_bakes 47 = .ok (.iload_n 3, 1) := by decide +kernel
theorem dX12_bakes_48 : decode cX12_bakes 48 = .ok (.if_icmp .gt 34, 3) := by decide +kernel
theorem dX12_bakes_51 : decode cX12_bakes 51 = .ok (.aload_n 0, 1) := by decide +kernel
theorem dX12_bakes_52 : decode cX12_bakes 52 = .ok (.iload_n 1, 1) := by decide +kernel
theorem dX12_bakes_53 : decode cX12_bakes 53 = .ok (.iload 5, 2) := by decide +kernel
theorem dX12_bakes_55 : decode cX12_bakes 55 = .ok (.aload_n 0, 1) := by decide +kernel
theorem dX12_bakes_56 : decode cX12_bakes 56 = .ok (.getfield 19, 3) := by decide +kernel
theorem dX12_bakes_59 : decode cX12_bakes 59 = .ok (.iload 5, 2) := by decide +kernel
theorem dX12_bakes_61 : decode cX12_bakes 61 = .ok (.iload_n 2, 1) := by decide +kernel
theorem dX12_bakes_62 : decode cX12_bakes 62 = .ok (.isub, 1) := by decide +kernel
theorem dX12_bakes_63 : decode cX12_bakes 63 = .ok (.iaload, 1) := by decide +kernel
theorem dX12_bakes_64 : decode cX12_bakes 64 = .ok (.iconst 2, 1) := by decide +kernel
theorem dX12_bakes_65 : decode cX12_bakes 65 = .ok (.iconst 0, 1) := by decide +kernel
theorem dX12_bakes_66 : decode cX12_bakes 66 = .ok (.iconst 0, 1) := by decide +kernel
theorem dX12_bakes_67 : decode cX12_bakes 67 = .ok (.invokevirtual 149, 3) := by decide +kernel
theorem dX12_bakes_70 : decode cX12_bakes 70 = .ok (.istore 6, 2) := by decide +kernel
theorem dX12_bakes_72 : decode cX12_bakes 72 = .ok (.iload 5, 2) := by decide +kernel
theorem dX12_bakes_74 : decode cX12_bakes 74 = .ok (.iload 4, 2) := by decide +kernel
theorem dX12_bakes_76 : decode cX12_bakes 76 = .ok (.iadd, 1) := by decide +kernel
theorem dX12_bakes_77 : decode cX12_bakes 77 = .ok (.istore 5, 2) := by decide +kernel
theorem dX12_bakes_79 : decode cX12_bakes 79 = .ok (.goto (-34), 3) := by decide +kernel
theorem dX12_bakes_82 : decode cX12_bakes 82 = .ok (.aload_n 0, 1) := by decide +kernel
theorem dX12_bakes_83 : decode cX12_bakes 83 = .ok (.iload_n 1, 1) := by decide +kernel
theorem dX12_bakes_84 : decode cX12_bakes 84 = .ok (.invokevirtual 78, 3) := by decide +kernel
theorem dX12_bakes_87 : decode cX12_bakes 87 = .ok (.ireturn, 1) := by decide +kernel
theorem dX12_isBaking_0 : decode cX12_isBaking 0 = .ok (.iload_n 0, 1) := by decide +kernel
theorem dX12_isBaking_1 : decode cX12_isBaking 1 = .ok (.iconst 0, 1) := by decide +kernel
theorem dX12_isBaking_2 : decode cX12_isBaking 2 = .ok (.sipush 480, 3) := by decide +kernel
theorem dX12_isBaking_5 : decode cX12_isBaking 5 = .ok (.invokestatic 66, 3) := by decide +kernel
theorem dX12_isBaking_8 : decode cX12_isBaking 8 = .ok (.ifCond .eq 29, 3) := by decide +kernel
theorem dX12_isBaking_11 : decode cX12_isBaking 11 = .ok (.iload_n 1, 1) := by decide +kernel
theorem dX12_isBaking_12 : decode cX12_isBaking 12 = .ok (.iload_n 0, 1) := by decide +kernel
theorem dX12_isBaking_13 : decode cX12_isBaking 13 = .ok (.sipush 480, 3) := by decide +kernel
theorem dX12_isBaking_16 : decode cX12_isBaking 16 = .ok (.invokestatic 66, 3) := by decide +kernel
theorem dX12_isBaking_19 : decode cX12_isBaking 19 = .ok (.ifCond .eq 18, 3) := by decide +kernel
theorem dX12_isBaking_22 : decode cX12_isBaking 22 = .ok (.iload_n 2, 1) := by decide +kernel
theorem dX12_isBaking_23 : decode cX12_isBaking 23 = .ok (.iconst 1, 1) := by decide +kernel
theorem dX12_isBaking_24 : decode cX12_isBaking 24 = .ok (.sipush 480, 3) := by decide +kernel
theorem dX12_isBaking_27 : decode cX12_isBaking 27 = .ok (.invokestatic 66, 3) := by decide +kernel
theorem dX12_isBaking_30 : decode cX12_isBaking 30 = .ok (.ifCond .eq 7, 3) := by decide +kernel
theorem dX12_isBaking_33 : decode cX12_isBaking 33 = .ok (.iconst 1, 1) := by decide +kernel
theorem dX12_isBaking_34 : decode cX12_isBaking 34 = .ok (.goto 4, 3) := by decide +kernel
theorem dX12_isBaking_37 : decode cX12_isBaking 37 = .ok (.iconst 0, 1) := by decide +kernel
theorem dX12_isBaking_38 : decode cX12_isBaking 38 = .ok (.ireturn, 1) := by decide +kernel
theorem dX12_bake_0 : decode cX12_bake 0 = .ok (.iload_n 1, 1) := by decide +kernel
theorem dX12_bake_1 : decode cX12_bake 1 = .ok (.invokestatic 74, 3) := by decide +kernel
theorem dX12_bake_4 : decode cX12_bake 4 = .ok (.ifCond .ne 6, 3) := by decide +kernel
theorem dX12_bake_7 : decode cX12_bake 7 = .ok (.ldc 131, 2) := by decide +kernel
theorem dX12_bake_9 : decode cX12_bake 9 = .ok (.ireturn, 1) := by decide +kernel
theorem dX12_bake_10 : decode cX12_bake 10 = .ok (.iload_n 2, 1) := by decide +kernel
theorem dX12_bake_11 : decode cX12_bake 11 = .ok (.iload_n 3, 1) := by decide +kernel
theorem dX12_bake_12 : decode cX12_bake 12 = .ok (.iload 4, 2) := by decide +kernel
theorem dX12_bake_14 : decode cX12_bake 14 = .ok (.invokestatic 174, 3) := by decide +kernel
theorem dX12_bake_17 : decode cX12_bake 17 = .ok (.ifCond .ne 6, 3) := by decide +kernel
theorem dX12_bake_20 : decode cX12_bake 20 = .ok (.ldc 132, 2) := by decide +kernel
theorem dX12_bake_22 : decode cX12_bake 22 = .ok (.ireturn, 1) := by decide +kernel
theorem dX12_bake_23 : decode cX12_bake 23 = .ok (.aload_n 0, 1) := by decide +kernel
theorem dX12_bake_24 : decode cX12_bake 24 = .ok (.iload_n 1, 1) := by decide +kernel
theorem dX12_bake_25 : decode cX12_bake 25 = .ok (.invokevirtual 78, 3) := by decide +kernel
theorem dX12_bake_28 : decode cX12_bake 28 = .ok (.ifCond .ne 6, 3) := by decide +kernel
theorem dX12_bake_31 : decode cX12_bake 31 = .ok (.ldc 157, 2) := by decide +kernel
theorem dX12_bake_33 : decode cX12_bake 33 = .ok (.ireturn, 1) := by decide +kernel
theorem dX12_bake_34 : decode cX12_bake 34 = .ok (.aload_n 0, 1) := by decide +kernel
theorem dX12_bake_35 : decode cX12_bake 35 = .ok (.iload_n 1, 1) := by decide +kernel
theorem dX12_bake_36 : decode cX12_bake 36 = .ok (.iload_n 2, 1) := by decide +kernel
theorem dX12_bake_37 : decode cX12_bake 37 = .ok (.iload_n 3, 1) := by decide +kernel
theorem dX12_bake_38 : decode cX12_bake 38 = .ok (.invokevirtual 177, 3) := by decide +kernel
theorem dX12_bake_41 : decode cX12_bake 41 = .ok (.iload_n 3, 1) := by decide +kernel
theorem dX12_bake_42 : decode cX12_bake 42 = .ok (.iload_n 2, 1) := by decide +kernel
theorem dX12_bake_43 : decode cX12_bake 43 = .ok (.isub, 1) := by decide +kernel
theorem dX12_bake_44 : decode cX12_bake 44 = .ok (.iload 4, 2) := by decide +kernel
theorem dX12_bake_46 : decode cX12_bake 46 = .ok (.idiv, 1) := by decide +kernel
theorem dX12_bake_47 : decode cX12_bake 47 = .ok (.iadd, 1) := by decide +kernel
theorem dX12_bake_48 : decode cX12_bake 48 = .ok (.iconst 1, 1) := by decide +kernel
theorem dX12_bake_49 : decode cX12_bake 49 = .ok (.iadd, 1) := by decide +kernel
theorem dX12_bake_50 : decode cX12_bake 50 = .ok (.bipush 24, 2) := by decide +kernel
theorem dX12_bake_52 : decode cX12_bake 52 = .ok (.if_icmp .le 6, 3) := by decide +kernel
theorem dX12_bake_55 : decode cX12_bake 55 = .ok (.ldc 145, 2) := by decide +kernel
theorem dX12_bake_57 : decode cX12_bake 57 = .ok (.ireturn, 1) := by decide +kernel
theorem dX12_bake_58 : decode cX12_bake 58 = .ok (.aload_n 0, 1) := by decide +kernel
theorem dX12_bake_59 : decode cX12_bake 59 = .ok (.invokevirtual 146, 3) := by decide +kernel
theorem dX12_bake_62 : decode cX12_bake 62 = .ok (.iload_n 2, 1) := by decide +kernel
theorem dX12_bake_63 : decode cX12_bake 63 = .ok (.istore 5, 2) := by decide +kernel
theorem dX12_bake_65 : decode cX12_bake 65 = .ok (.iload 5, 2) := by decide +kernel
theorem dX12_bake_67 : decode cX12_bake 67 = .ok (.iload_n 3, 1) := by decide +kernel
theorem dX12_bake_68 : decode cX12_bake 68 = .ok (.if_icmp .gt 33, 3) := by decide +kernel
theorem dX12_bake_71 : decode cX12_bake 71 = .ok (.aload_n 0, 1) := by decide +kernel
theorem dX12_bake_72 : decode cX12_bake 72 = .ok (.getfield 19, 3) := by decide +kernel
theorem dX12_bake_75 : decode cX12_bake 75 = .ok (.iload 5, 2) := by decide +kernel
theorem dX12_bake_77 : decode cX12_bake 77 = .ok (.iload_n 2, 1) := by decide +kernel
theorem dX12_bake_78 : decode cX12_bake 78 = .ok (.isub, 1) := by decide +kernel
theorem dX12_bake_79 : decode cX12_bake 79 = .ok (.aload_n 0, 1) := by decide +kernel
theorem dX12_bake_80 : decode cX12_bake 80 = .ok (.iload_n 1, 1) := by decide +kernel
theorem dX12_bake_81 : decode cX12_bake 81 = .ok (.iload 5, 2) := by decide +kernel
theorem dX12_bake_83 : decode cX12_bake 83 = .ok (.invokevirtual 133, 3) := by decide +kernel
theorem dX12_bake_86 : decode cX12_bake 86 = .ok (.i2l, 1) := by decide +kernel
theorem dX12_bake_87 : decode cX12_bake 87 = .ok (.invokestatic 161, 3) := by decide +kernel
theorem dX12_bake_90 : decode cX12_bake 90 = .ok (.iastore, 1) := by decide +kernel
theorem dX12_bake_91 : decode cX12_bake 91 = .ok (.iload 5, 2) := by decide +kernel
theorem dX12_bake_93 : decode cX12_bake 93 = .ok (.iload 4, 2) := by decide +kernel
theorem dX12_bake_95 : decode cX12_bake 95 = .ok (.iadd, 1) := by decide +kernel
theorem dX12_bake_96 : decode cX12_bake 96 = .ok (.istore 5, 2) := by decide +kernel
theorem dX12_bake_98 : decode cX12_bake 98 = .ok (.goto (-33), 3) := by decide +kernel
theorem dX12_bake_101 : decode cX12_bake 101 = .ok (.aload_n 0, 1) := by decide +kernel
theorem dX12_bake_102 : decode cX12_bake 102 = .ok (.iload_n 1, 1) := by decide +kernel
theorem dX12_bake_103 : decode cX12_bake 103 = .ok (.iload_n 2, 1) := by decide +kernel
theorem dX12_bake_104 : decode cX12_bake 104 = .ok (.iload_n 3, 1) := by decide +kernel
theorem dX12_bake_105 : decode cX12_bake 105 = .ok (.iload 4, 2) := by decide +kernel
theorem dX12_bake_107 : decode cX12_bake 107 = .ok (.invokevirtual 180, 3) := by decide +kernel
theorem dX12_bake_110 : decode cX12_bake 110 = .ok (.ireturn, 1) := by decide +kernel
theorem dX12_bakeFormula_0 : decode cX12_bakeFormula 0 = .ok (.iload_n 1, 1) := by decide +kernel
theorem dX12_bakeFormula_1 : decode cX12_bakeFormula 1 = .ok (.invokestatic 74, 3) := by decide +kernel
theorem dX12_bakeFormula_4 : decode cX12_bakeFormula 4 = .ok (.ifCond .ne 6, 3) := by decide +kernel
theorem dX12_bakeFormula_7 : decode cX12_bakeFormula 7 = .ok (.ldc 131, 2) := by decide +kernel
theorem dX12_bakeFormula_9 : decode cX12_bakeFormula 9 = .ok (.ireturn, 1) := by decide +kernel
theorem dX12_bakeFormula_10 : decode cX12_bakeFormula 10 = .ok (.iload_n 2, 1) := by decide +kernel
theorem dX12_bakeFormula_11 : decode cX12_bakeFormula 11 = .ok (.iload_n 3, 1) := by decide +kernel
theorem dX12_bakeFormula_12 : decode cX12_bakeFormula 12 = .ok (.iload 4, 2) := by decide +kernel
theorem dX12_bakeFormula_14 : decode cX12_bakeFormula 14 = .ok (.invokestatic 174, 3) := by decide +kernel
theorem dX12_bakeFormula_17 : decode cX12_bakeFormula 17 = .ok (.ifCond .ne 6, 3) := by decide +kernel
theorem dX12_bakeFormula_20 : decode cX12_bakeFormula 20 = .ok (.ldc 132, 2) := by decide +kernel
theorem dX12_bakeFormula_22 : decode cX12_bakeFormula 22 = .ok (.ireturn, 1) := by decide +kernel
theorem dX12_bakeFormula_23 : decode cX12_bakeFormula 23 = .ok (.aload_n 0, 1) := by decide +kernel
theorem dX12_bakeFormula_24 : decode cX12_bakeFormula 24 = .ok (.iload_n 1, 1) := by decide +kernel
theorem dX12_bakeFormula_25 : decode cX12_bakeFormula 25 = .ok (.iload_n 2, 1) := by decide +kernel
theorem dX12_bakeFormula_26 : decode cX12_bakeFormula 26 = .ok (.iload_n 3, 1) := by decide +kernel
theorem dX12_bakeFormula_27 : decode cX12_bakeFormula 27 = .ok (.invokevirtual 177, 3) := by decide +kernel
theorem dX12_bakeFormula_30 : decode cX12_bakeFormula 30 = .ok (.iload_n 3, 1) := by decide +kernel
theorem dX12_bakeFormula_31 : decode cX12_bakeFormula 31 = .ok (.iload_n 2, 1) := by decide +kernel
theorem dX12_bakeFormula_32 : decode cX12_bakeFormula 32 = .ok (.isub, 1) := by decide +kernel
theorem dX12_bakeFormula_33 : decode cX12_bakeFormula 33 = .ok (.iload 4, 2) := by decide +kernel
theorem dX12_bakeFormula_35 : decode cX12_bakeFormula 35 = .ok (.idiv, 1) := by decide +kernel
theorem dX12_bakeFormula_36 : decode cX12_bakeFormula 36 = .ok (.iadd, 1) := by decide +kernel
theorem dX12_bakeFormula_37 : decode cX12_bakeFormula 37 = .ok (.iconst 1, 1) := by decide +kernel
theorem dX12_bakeFormula_38 : decode cX12_bakeFormula 38 = .ok (.iadd, 1) := by decide +kernel
theorem dX12_bakeFormula_39 : decode cX12_bakeFormula 39 = .ok (.bipush 24, 2) := by decide +kernel
theorem dX12_bakeFormula_41 : decode cX12_bakeFormula 41 = .ok (.if_icmp .le 6, 3) := by decide +kernel
theorem dX12_bakeFormula_44 : decode cX12_bakeFormula 44 = .ok (.ldc 145, 2) := by decide +kernel
theorem dX12_bakeFormula_46 : decode cX12_bakeFormula 46 = .ok (.ireturn, 1) := by decide +kernel
theorem dX12_bakeFormula_47 : decode cX12_bakeFormula 47 = .ok (.aload_n 0, 1) := by decide +kernel
theorem dX12_bakeFormula_48 : decode cX12_bakeFormula 48 = .ok (.invokevirtual 146, 3) := by decide +kernel
theorem dX12_bakeFormula_51 : decode cX12_bakeFormula 51 = .ok (.iload_n 2, 1) := by decide +kernel
theorem dX12_bakeFormula_52 : decode cX12_bakeFormula 52 = .ok (.istore 5, 2) := by decide +kernel
theorem dX12_bakeFormula_54 : decode cX12_bakeFormula 54 = .ok (.iload 5, 2) := by decide +kernel
theorem dX12_bakeFormula_56 : decode cX12_bakeFormula 56 = .ok (.iload_n 3, 1) := by decide +kernel
theorem dX12_bakeFormula_57 : decode cX12_bakeFormula 57 = .ok (.if_icmp .gt 32, 3) := by decide +kernel
theorem dX12_bakeFormula_60 : decode cX12_bakeFormula 60 = .ok (.aload_n 0, 1) := by decide +kernel
theorem dX12_bakeFormula_61 : decode cX12_bakeFormula 61 = .ok (.getfield 19, 3) := by decide +kernel
theorem dX12_bakeFormula_64 : decode cX12_bakeFormula 64 = .ok (.iload 5, 2) := by decide +kernel
theorem dX12_bakeFormula_66 : decode cX12_bakeFormula 66 = .ok (.iload_n 2, 1) := by decide +kernel
theorem dX12_bakeFormula_67 : decode cX12_bakeFormula 67 = .ok (.isub, 1) := by decide +kernel
theorem dX12_bakeFormula_68 : decode cX12_bakeFormula 68 = .ok (.aload_n 0, 1) := by decide +kernel
theorem dX12_bakeFormula_69 : decode cX12_bakeFormula 69 = .ok (.iload 5, 2) := by decide +kernel
theorem dX12_bakeFormula_71 : decode cX12_bakeFormula 71 = .ok (.invokevirtual 184, 3) := by decide +kernel
theorem dX12_bakeFormula_74 : decode cX12_bakeFormula 74 = .ok (.i2l, 1) := by decide +kernel
theorem dX12_bakeFormula_75 : decode cX12_bakeFormula 75 = .ok (.invokestatic 161, 3) := by decide +kernel
theorem dX12_bakeFormula_78 : decode cX12_bakeFormula 78 = .ok (.iastore, 1) := by decide +kernel
theorem dX12_bakeFormula_79 : decode cX12_bakeFormula 79 = .ok (.iload 5, 2) := by decide +kernel
theorem dX12_bakeFormula_81 : decode cX12_bakeFormula 81 = .ok (.iload 4, 2) := by decide +kernel
theorem dX12_bakeFormula_83 : decode cX12_bakeFormula 83 = .ok (.iadd, 1) := by decide +kernel
theorem dX12_bakeFormula_84 : decode cX12_bakeFormula 84 = .ok (.istore 5, 2) := by decide +kernel
theorem dX12_bakeFormula_86 : decode cX12_bakeFormula 86 = .ok (.goto (-32), 3) := by decide +kernel
theorem dX12_bakeFormula_89 : decode cX12_bakeFormula 89 = .ok (.aload_n 0, 1) := by decide +kernel
theorem dX12_bakeFormula_90 : decode cX12_bakeFormula 90 = .ok (.iload_n 1, 1) := by decide +kernel
theorem dX12_bakeFormula_91 : decode cX12_bakeFormula 91 = .ok (.iload_n 2, 1) := by decide +kernel
theorem dX12_bakeFormula_92 : decode cX12_bakeFormula 92 = .ok (.iload_n 3, 1) := by decide +kernel
theorem dX12_bakeFormula_93 : decode cX12_bakeFormula 93 = .ok (.iload 4, 2) := by decide +kernel
theorem dX12_bakeFormula_95 : decode cX12_bakeFormula 95 = .ok (.invokevirtual 180, 3) := by decide +kernel
theorem dX12_bakeFormula_98 : decode cX12_bakeFormula 98 = .ok (.ireturn, 1) := by decide +kernel
theorem dX12_apart_0 : decode cX12_apart 0 = .ok (.lconst 0, 1) := by decide +kernel
theorem dX12_apart_1 : decode cX12_apart 1 = .ok (.lstore 4, 2) := by decide +kernel
theorem dX12_apart_3 : decode cX12_apart 3 = .ok (.iload_n 1, 1) := by decide +kernel
theorem dX12_apart_4 : decode cX12_apart 4 = .ok (.iconst 1, 1) := by decide +kernel
theorem dX12_apart_5 : decode cX12_apart 5 = .ok (.iadd, 1) := by decide +kernel
theorem dX12_apart_6 : decode cX12_apart 6 = .ok (.istore 6, 2) := by decide +kernel
theorem dX12_apart_8 : decode cX12_apart 8 = .ok (.iload 6, 2) := by decide +kernel
theorem dX12_apart_10 : decode cX12_apart 10 = .ok (.iload_n 2, 1) := by decide +kernel
theorem dX12_apart_11 : decode cX12_apart 11 = .ok (.if_icmp .ge 79, 3) := by decide +kernel
theorem dX12_apart_14 : decode cX12_apart 14 = .ok (.aload_n 0, 1) := by decide +kernel
theorem dX12_apart_15 : decode cX12_apart 15 = .ok (.getfield 22, 3) := by decide +kernel
theorem dX12_apart_18 : decode cX12_apart 18 = .ok (.iload_n 1, 1) := by decide +kernel
theorem dX12_apart_19 : decode cX12_apart 19 = .ok (.iaload, 1) := by decide +kernel
theorem dX12_apart_20 : decode cX12_apart 20 = .ok (.aload_n 0, 1) := by decide +kernel
theorem dX12_apart_21 : decode cX12_apart 21 = .ok (.getfield 22, 3) := by decide +kernel
theorem dX12_apart_24 : decode cX12_apart 24 = .ok (.iload_n 2, 1) := by decide +kernel
theorem dX12_apart_25 : decode cX12_apart 25 = .ok (.iaload, 1) := by decide +kernel
theorem dX12_apart_26 : decode cX12_apart 26 = .ok (.aload_n 0, 1) := by decide +kernel
theorem dX12_apart_27 : decode cX12_apart 27 = .ok (.getfield 22, 3) := by decide +kernel
theorem dX12_apart_30 : decode cX12_apart 30 = .ok (.iload_n 1, 1) := by decide +kernel
theorem dX12_apart_31 : decode cX12_apart 31 = .ok (.iaload, 1) := by decide +kernel
theorem dX12_apart_32 : decode cX12_apart 32 = .ok (.isub, 1) := by decide +kernel
theorem dX12_apart_33 : decode cX12_apart 33 = .ok (.i2l, 1) := by decide +kernel
theorem dX12_apart_34 : decode cX12_apart 34 = .ok (.iload 6, 2) := by decide +kernel
theorem dX12_apart_36 : decode cX12_apart 36 = .ok (.iload_n 1, 1) := by decide +kernel
theorem dX12_apart_37 : decode cX12_apart 37 = .ok (.isub, 1) := by decide +kernel
theorem dX12_apart_38 : decode cX12_apart 38 = .ok (.i2l, 1) := by decide +kernel
theorem dX12_apart_39 : decode cX12_apart 39 = .ok (.lmul, 1) := by decide +kernel
theorem dX12_apart_40 : decode cX12_apart 40 = .ok (.iload_n 2, 1) := by decide +kernel
theorem dX12_apart_41 : decode cX12_apart 41 = .ok (.iload_n 1, 1) := by decide +kernel
theorem dX12_apart_42 : decode cX12_apart 42 = .ok (.isub, 1) := by decide +kernel
theorem dX12_apart_43 : decode cX12_apart 43 = .ok (.i2l, 1) := by decide +kernel
theorem dX12_apart_44 : decode cX12_apart 44 = .ok (.invokestatic 93, 3) := by decide +kernel
theorem dX12_apart_47 : decode cX12_apart 47 = .ok (.l2i, 1) := by decide +kernel
theorem dX12_apart_48 : decode cX12_apart 48 = .ok (.iadd, 1) := by decide +kernel
theorem dX12_apart_49 : decode cX12_apart 49 = .ok (.istore 7, 2) := by decide +kernel
theorem dX12_apart_51 : decode cX12_apart 51 = .ok (.iload 7, 2) := by decide +kernel
theorem dX12_apart_53 : decode cX12_apart 53 = .ok (.aload_n 0, 1) := by decide +kernel
theorem dX12_apart_54 : decode cX12_apart 54 = .ok (.getfield 22, 3) := by decide +kernel
theorem dX12_apart_57 : decode cX12_apart 57 = .ok (.iload 6, 2) := by decide +kernel
theorem dX12_apart_59 : decode cX12_apart 59 = .ok (.iaload, 1) := by decide +kernel
theorem dX12_apart_60 : decode cX12_apart 60 = .ok (.isub, 1) := by decide +kernel
theorem dX12_apart_61 : decode cX12_apart 61 = .ok (.invokestatic 102, 3) := by decide +kernel
theorem dX12_apart_64 : decode cX12_apart 64 = .ok (.istore 8, 2) := by decide +kernel
theorem dX12_apart_66 : decode cX12_apart 66 = .ok (.iload 8, 2) := by decide +kernel
theorem dX12_apart_68 : decode cX12_apart 68 = .ok (.iload_n 3, 1) := by decide +kernel
theorem dX12_apart_69 : decode cX12_apart 69 = .ok (.if_icmp .le 7, 3) := by decide +kernel
theorem dX12_apart_72 : decode cX12_apart 72 = .ok (.ldc2_w 187, 3) := by decide +kernel
theorem dX12_apart_75 : decode cX12_apart 75 = .ok (.lreturn, 1) := by decide +kernel
theorem dX12_apart_76 : decode cX12_apart 76 = .ok (.lload 4, 2) := by decide +kernel
theorem dX12_apart_78 : decode cX12_apart 78 = .ok (.iload 8, 2) := by decide +kernel
theorem dX12_apart_80 : decode cX12_apart 80 = .ok (.i2l, 1) := by decide +kernel
theorem dX12_apart_81 : decode cX12_apart 81 = .ok (.ladd, 1) := by decide +kernel
theorem dX12_apart_82 : decode cX12_apart 82 = .ok (.lstore 4, 2) := by decide +kernel
theorem dX12_apart_84 : decode cX12_apart 84 = .ok (.iinc 6 1, 3) := by decide +kernel
theorem dX12_apart_87 : decode cX12_apart 87 = .ok (.goto (-79), 3) := by decide +kernel
theorem dX12_apart_90 : decode cX12_apart 90 = .ok (.lload 4, 2) := by decide +kernel
theorem dX12_apart_92 : decode cX12_apart 92 = .ok (.lreturn, 1) := by decide +kernel
theorem dX12_lines_0 : decode cX12_lines 0 = .ok (.aload_n 0, 1) := by decide +kernel
theorem dX12_lines_1 : decode cX12_lines 1 = .ok (.getfield 25, 3) := by decide +kernel
theorem dX12_lines_4 : decode cX12_lines 4 = .ok (.iload_n 1, 1) := by decide +kernel
theorem dX12_lines_5 : decode cX12_lines 5 = .ok (.iconst 1, 1) := by decide +kernel
theorem dX12_lines_6 : decode cX12_lines 6 = .ok (.iastore, 1) := by decide +kernel
theorem dX12_lines_7 : decode cX12_lines 7 = .ok (.aload_n 0, 1) := by decide +kernel
theorem dX12_lines_8 : decode cX12_lines 8 = .ok (.getfield 28, 3) := by decide +kernel
theorem dX12_lines_11 : decode cX12_lines 11 = .ok (.iload_n 1, 1) := by decide +kernel
theorem dX12_lines_12 : decode cX12_lines 12 = .ok (.lconst 0, 1) := by decide +kernel
theorem dX12_lines_13 : decode cX12_lines 13 = .ok (.lastore, 1) := by decide +kernel
theorem dX12_lines_14 : decode cX12_lines 14 = .ok (.iload_n 1, 1) := by decide +kernel
theorem dX12_lines_15 : decode cX12_lines 15 = .ok (.iconst 1, 1) := by decide +kernel
theorem dX12_lines_16 : decode cX12_lines 16 = .ok (.isub, 1) := by decide +kernel
theorem dX12_lines_17 : decode cX12_lines 17 = .ok (.istore_n 3, 1) := by decide +kernel
theorem dX12_lines_18 : decode cX12_lines 18 = .ok (.iload_n 3, 1) := by decide +kernel
theorem dX12_lines_19 : decode cX12_lines 19 = .ok (.ifCond .lt 136, 3) := by decide +kernel
theorem dX12_lines_22 : decode cX12_lines 22 = .ok (.aload_n 0, 1) := by decide +kernel
theorem dX12_lines_23 : decode cX12_lines 23 = .ok (.getfield 25, 3) := by decide +kernel
theorem dX12_lines_26 : decode cX12_lines 26 = .ok (.iload_n 3, 1) := by decide +kernel
theorem dX12_lines_27 : decode cX12_lines 27 = .ok (.bipush 100, 2) := by decide +kernel
theorem dX12_lines_29 : decode cX12_lines 29 = .ok (.iastore, 1) := by decide +kernel
theorem dX12_lines_30 : decode cX12_lines 30 = .ok (.iload_n 3, 1) := by decide +kernel
theorem dX12_lines_31 : decode cX12_lines 31 = .ok (.iconst 1, 1) := by decide +kernel
theorem dX12_lines_32 : decode cX12_lines 32 = .ok (.iadd, 1) := by decide +kernel
theorem dX12_lines_33 : decode cX12_lines 33 = .ok (.istore 4, 2) := by decide +kernel
theorem dX12_lines_35 : decode cX12_lines 35 = .ok (.iload 4, 2) := by decide +kernel
theorem dX12_lines_37 : decode cX12_lines 37 = .ok (.iload_n 1, 1) := by decide +kernel
theorem dX12_lines_38 : decode cX12_lines 38 = .ok (.if_icmp .gt 111, 3) := by decide +kernel
theorem dX12_lines_41 : decode cX12_lines 41 = .ok (.aload_n 0, 1) := by decide +kernel
theorem dX12_lines_42 : decode cX12_lines 42 = .ok (.iload_n 3, 1) := by decide +kernel
theorem dX12_lines_43 : decode cX12_lines 43 = .ok (.iload 4, 2) := by decide +kernel
theorem dX12_lines_45 : decode cX12_lines 45 = .ok (.iload_n 2, 1) := by decide +kernel
theorem dX12_lines_46 : decode cX12_lines 46 = .ok (.invokevirtual 189, 3) := by decide +kernel
theorem dX12_lines_49 : decode cX12_lines 49 = .ok (.lstore 5, 2) := by decide +kernel
theorem dX12_lines_51 : decode cX12_lines 51 = .ok (.aload_n 0, 1) := by decide +kernel
theorem dX12_lines_52 : decode cX12_lines 52 = .ok (.getfield 25, 3) := by decide +kernel
theorem dX12_lines_55 : decode cX12_lines 55 = .ok (.iload 4, 2) := by decide +kernel
theorem dX12_lines_57 : decode cX12_lines 57 = .ok (.iaload, 1) := by decide +kernel
theorem dX12_lines_58 : decode cX12_lines 58 = .ok (.iconst 1, 1) := by decide +kernel
theorem dX12_lines_59 : decode cX12_lines 59 = .ok (.iadd, 1) := by decide +kernel
theorem dX12_lines_60 : decode cX12_lines 60 = .ok (.istore 7, 2) := by decide +kernel
theorem dX12_lines_62 : decode cX12_lines 62 = .ok (.lload 5, 2) := by decide +kernel
theorem dX12_lines_64 : decode cX12_lines 64 = .ok (.lconst 0, 1) := by decide +kernel
theorem dX12_lines_65 : decode cX12_lines 65 = .ok (.lcmp, 1) := by decide +kernel
theorem dX12_lines_66 : decode cX12_lines 66 = .ok (.ifCond .lt 77, 3) := by decide +kernel
theorem dX12_lines_69 : decode cX12_lines 69 = .ok (.iload 7, 2) := by decide +kernel
theorem dX12_lines_71 : decode cX12_lines 71 = .ok (.aload_n 0, 1) := by decide +kernel
theorem dX12_lines_72 : decode cX12_lines 72 = .ok (.getfield 25, 3) := by decide +kernel
theorem dX12_lines_75 : decode cX12_lines 75 = .ok (.iload_n 3, 1) := by decide +kernel
theorem dX12_lines_76 : decode cX12_lines 76 = .ok (.iaload, 1) := by decide +kernel
theorem dX12_lines_77 : decode cX12_lines 77 = .ok (.if_icmp .lt 34, 3) := by decide +kernel
theorem dX12_lines_80 : decode cX12_lines 80 = .ok (.iload 7, 2) := by decide +kernel
theorem dX12_lines_82 : decode cX12_lines 82 = .ok (.aload_n 0, 1) := by decide +kernel
theorem dX12_lines_83 : decode cX12_lines 83 = .ok (.getfield 25, 3) := by decide +kernel
theorem dX12_lines_86 : decode cX12_lines 86 = .ok (.iload_n 3, 1) := by decide +kernel
theorem dX12_lines_87 : decode cX12_lines 87 = .ok (.iaload, 1) := by decide +kernel
theorem dX12_lines_88 : decode cX12_lines 88 = .ok (.if_icmp .ne 55, 3) := by decide +kernel
theorem dX12_lines_91 : decode cX12_lines 91 = .ok (.lload 5, 2) := by decide +kernel
theorem dX12_lines_93 : decode cX12_lines 93 = .ok (.aload_n 0, 1) := by decide +kernel
theorem dX12_lines_94 : decode cX12_lines 94 = .ok (.getfield 28, 3) := by decide +kernel
theorem dX12_lines_97 : decode cX12_lines 97 = .ok (.iload 4, 2) := by decide +kernel
theorem dX12_lines_99 : decode cX12_lines 99 = .ok (.laload, 1) := by decide +kernel
theorem dX12_lines_100 : decode cX12_lines 100 = .ok (.ladd, 1) := by decide +kernel
theorem dX12_lines_101 : decode cX12_lines 101 = .ok (.aload_n 0, 1) := by decide +kernel
theorem dX12_lines_102 : decode cX12_lines 102 = .ok (.getfield 28, 3) := by decide +kernel
theorem dX12_lines_105 : decode cX12_lines 105 = .ok (.iload_n 3, 1) := by decide +kernel
theorem dX12_lines_106 : decode cX12_lines 106 = .ok (.laload, 1) := by decide +kernel
theorem dX12_lines_107 : decode cX12_lines 107 = .ok (.lcmp, 1) := by decide +kernel
theorem dX12_lines_108 : decode cX12_lines 108 = .ok (.ifCond .ge 35, 3) := by decide +kernel
theorem dX12_lines_111 : decode cX12_lines 111 = .ok (.aload_n 0, 1) := by decide +kernel
theorem dX12_lines_112 : decode cX12_lines 112 = .ok (.getfield 25, 3) := by decide +kernel
theorem dX12_lines_115 : decode cX12_lines 115 = .ok (.iload_n 3, 1) := by decide +kernel
theorem dX12_lines_116 : decode cX12_lines 116 = .ok (.iload 7, 2) := by decide +kernel
theorem dX12_lines_118 : decode cX12_lines 118 = .ok (.iastore, 1) := by decide +kernel
theorem dX12_lines_119 : decode cX12_lines 119 = .ok (.aload_n 0, 1) := by decide +kernel
theorem dX12_lines_120 : decode cX12_lines 120 = .ok (.getfield 28, 3) := by decide +kernel
theorem dX12_lines_123 : decode cX12_lines 123 = .ok (.iload_n 3, 1) := by decide +kernel
theorem dX12_lines_124 : decode cX12_lines 124 = .ok (.lload 5, 2) := by decide +kernel
theorem dX12_lines_126 : decode cX12_lines 126 = .ok (.aload_n 0, 1) := by decide +kernel
theorem dX12_lines_127 : decode cX12_lines 127 = .ok (.getfield 28, 3) := by decide +kernel
theorem dX12_lines_130 : decode cX12_lines 130 = .ok (.iload 4, 2) := by decide +kernel
theorem dX12_lines_132 : decode cX12_lines 132 = .ok (.laload, 1) := by decide +kernel
theorem dX12_lines_133 : decode cX12_lines 133 = .ok (.ladd, 1) := by decide +kernel
theorem dX12_lines_134 : decode cX12_lines 134 = .ok (.lastore, 1) := by decide +kernel
theorem dX12_lines_135 : decode cX12_lines 135 = .ok (.aload_n 0, 1) := by decide +kernel
theorem dX12_lines_136 : decode cX12_lines 136 = .ok (.getfield 32, 3) := by decide +kernel
theorem dX12_lines_139 : decode cX12_lines 139 = .ok (.iload_n 3, 1) := by decide +kernel
theorem dX12_lines_140 : decode cX12_lines 140 = .ok (.iload 4, 2) := by decide +kernel
theorem dX12_lines_142 : decode cX12_lines 142 = .ok (.iastore, 1) := by decide +kernel
theorem dX12_lines_143 : decode cX12_lines 143 = .ok (.iinc 4 1, 3) := by decide +kernel
theorem dX12_lines_146 : decode cX12_lines 146 = .ok (.goto (-111), 3) := by decide +kernel
theorem dX12_lines_149 : decode cX12_lines 149 = .ok (.iinc 3 (-1), 3) := by decide +kernel
theorem dX12_lines_152 : decode cX12_lines 152 = .ok (.goto (-134), 3) := by decide +kernel
theorem dX12_lines_155 : decode cX12_lines 155 = .ok (.return_, 1) := by decide +kernel
theorem dX12_polyline_0 : decode cX12_polyline 0 = .ok (.iload_n 1, 1) := by decide +kernel
theorem dX12_polyline_1 : decode cX12_polyline 1 = .ok (.invokestatic 74, 3) := by decide +kernel
theorem dX12_polyline_4 : decode cX12_polyline 4 = .ok (.ifCond .ne 6, 3) := by decide +kernel
theorem dX12_polyline_7 : decode cX12_polyline 7 = .ok (.ldc 131, 2) := by decide +kernel
theorem dX12_polyline_9 : decode cX12_polyline 9 = .ok (.ireturn, 1) := by decide +kernel
theorem dX12_polyline_10 : decode cX12_polyline 10 = .ok (.iload_n 2, 1) := by decide +kernel
theorem dX12_polyline_11 : decode cX12_polyline 11 = .ok (.iconst 0, 1) := by decide +kernel
theorem dX12_polyline_12 : decode cX12_polyline 12 = .ok (.sipush 960, 3) := by decide +kernel
theorem dX12_polyline_15 : decode cX12_polyline 15 = .ok (.invokestatic 66, 3) := by decide +kernel
theorem dX12_polyline_18 : decode cX12_polyline 18 = .ok (.ifCond .eq 41, 3) := by decide +kernel
theorem dX12_polyline_21 : decode cX12_polyline 21 = .ok (.iload_n 3, 1) := by decide +kernel
theorem dX12_polyline_22 : decode cX12_polyline 22 = .ok (.iload_n 2, 1) := by decide +kernel
theorem dX12_polyline_23 : decode cX12_polyline 23 = .ok (.iconst 1, 1) := by decide +kernel
theorem dX12_polyline_24 : decode cX12_polyline 24 = .ok (.iadd, 1) := by decide +kernel
theorem dX12_polyline_25 : decode cX12_polyline 25 = .ok (.iload_n 2, 1) := by decide +kernel
theorem dX12_polyline_26 : decode cX12_polyline 26 = .ok (.bipush 40, 2) := by decide +kernel
theorem dX12_polyline_28 : decode cX12_polyline 28 = .ok (.iadd, 1) := by decide +kernel
theorem dX12_polyline_29 : decode cX12_polyline 29 = .ok (.sipush 960, 3) := by decide +kernel
theorem dX12_polyline_32 : decode cX12_polyline 32 = .ok (.invokestatic 105, 3) := by decide +kernel
theorem dX12_polyline_35 : decode cX12_polyline 35 = .ok (.invokestatic 66, 3) := by decide +kernel
theorem dX12_polyline_38 : decode cX12_polyline 38 = .ok (.ifCond .eq 21, 3) := by decide +kernel
theorem dX12_polyline_41 : decode cX12_polyline 41 = .ok (.iload 4, 2) := by decide +kernel
theorem dX12_polyline_43 : decode cX12_polyline 43 = .ok (.iconst 0, 1) := by decide +kernel
theorem dX12_polyline_44 : decode cX12_polyline 44 = .ok (.sipush 9999, 3) := by decide +kernel
theorem dX12_polyline_47 : decode cX12_polyline 47 = .ok (.invokestatic 66, 3) := by decide +kernel
theorem dX12_polyline_50 : decode cX12_polyline 50 = .ok (.ifCond .eq 9, 3) := by decide +kernel
theorem dX12_polyline_53 : decode cX12_polyline 53 = .ok (.iload 5, 2) := by decide +kernel
theorem dX12_polyline_55 : decode cX12_polyline 55 = .ok (.iconst (-1), 1) := by decide +kernel
theorem dX12_polyline_56 : decode cX12_polyline 56 = .ok (.if_icmp .ge 6, 3) := by decide +kernel
theorem dX12_polyline_59 : decode cX12_polyline 59 = .ok (.ldc 132, 2) := by decide +kernel
theorem dX12_polyline_61 : decode cX12_polyline 61 = .ok (.ireturn, 1) := by decide +kernel
theorem dX12_polyline_62 : decode cX12_polyline 62 = .ok (.aload_n 0, 1) := by decide +kernel
theorem dX12_polyline_63 : decode cX12_polyline 63 = .ok (.iload_n 1, 1) := by decide +kernel
theorem dX12_polyline_64 : decode cX12_polyline 64 = .ok (.invokevirtual 78, 3) := by decide +kernel
theorem dX12_polyline_67 : decode cX12_polyline 67 = .ok (.ifCond .ne 6, 3) := by decide +kernel
theorem dX12_polyline_70 : decode cX12_polyline 70 = .ok (.ldc 157, 2) := by decide +kernel
theorem dX12_polyline_72 : decode cX12_polyline 72 = .ok (.ireturn, 1) := by decide +kernel
theorem dX12_polyline_73 : decode cX12_polyline 73 = .ok (.iload_n 2, 1) := by decide +kernel
theorem dX12_polyline_74 : decode cX12_polyline 74 = .ok (.istore 6, 2) := by decide +kernel
theorem dX12_polyline_76 : decode cX12_polyline 76 = .ok (.iload 6, 2) := by decide +kernel
theorem dX12_polyline_78 : decode cX12_polyline 78 = .ok (.iload_n 3, 1) := by decide +kernel
theorem dX12_polyline_79 : decode cX12_polyline 79 = .ok (.if_icmp .gt 25, 3) := by decide +kernel
theorem dX12_polyline_82 : decode cX12_polyline 82 = .ok (.aload_n 0, 1) := by decide +kernel
theorem dX12_polyline_83 : decode cX12_polyline 83 = .ok (.getfield 22, 3) := by decide +kernel
theorem dX12_polyline_86 : decode cX12_polyline 86 = .ok (.iload 6, 2) := by decide +kernel
theorem dX12_polyline_88 : decode cX12_polyline 88 = .ok (.iload_n 2, 1) := by decide +kernel
theorem dX12_polyline_89 : decode cX12_polyline 89 = .ok (.isub, 1) := by decide +kernel
theorem dX12_polyline_90 : decode cX12_polyline 90 = .ok (.aload_n 0, 1) := by decide +kernel
theorem dX12_polyline_91 : decode cX12_polyline 91 = .ok (.iload_n 1, 1) := by decide +kernel
theorem dX12_polyline_92 : decode cX12_polyline 92 = .ok (.iload 6, 2) := by decide +kernel
theorem dX12_polyline_94 : decode cX12_polyline 94 = .ok (.invokevirtual 133, 3) := by decide +kernel
theorem dX12_polyline_97 : decode cX12_polyline 97 = .ok (.iastore, 1) := by decide +kernel
theorem dX12_polyline_98 : decode cX12_polyline 98 = .ok (.iinc 6 1, 3) := by decide +kernel
theorem dX12_polyline_101 : decode cX12_polyline 101 = .ok (.goto (-25), 3) := by decide +kernel
theorem dX12_polyline_104 : decode cX12_polyline 104 = .ok (.aload_n 0, 1) := by decide +kernel
theorem dX12_polyline_105 : decode cX12_polyline 105 = .ok (.iload_n 3, 1) := by decide +kernel
theorem dX12_polyline_106 : decode cX12_polyline 106 = .ok (.iload_n 2, 1) := by decide +kernel
theorem dX12_polyline_107 : decode cX12_polyline 107 = .ok (.isub, 1) := by decide +kernel
theorem dX12_polyline_108 : decode cX12_polyline 108 = .ok (.iload 4, 2) := by decide +kernel
theorem dX12_polyline_110 : decode cX12_polyline 110 = .ok (.invokevirtual 193, 3) := by decide +kernel
theorem dX12_polyline_113 : decode cX12_polyline 113 = .ok (.iload 5, 2) := by decide +kernel
theorem dX12_polyline_115 : decode cX12_polyline 115 = .ok (.ifCond .ge 10, 3) := by decide +kernel
theorem dX12_polyline_118 : decode cX12_polyline 118 = .ok (.aload_n 0, 1) := by decide +kernel
theorem dX12_polyline_119 : decode cX12_polyline 119 = .ok (.getfield 25, 3) := by decide +kernel
theorem dX12_polyline_122 : decode cX12_polyline 122 = .ok (.iconst 0, 1) := by decide +kernel
theorem dX12_polyline_123 : decode cX12_polyline 123 = .ok (.iaload, 1) := by decide +kernel
theorem dX12_polyline_124 : decode cX12_polyline 124 = .ok (.ireturn, 1) := by decide +kernel
theorem dX12_polyline_125 : decode cX12_polyline 125 = .ok (.iload 5, 2) := by decide +kernel
theorem dX12_polyline_127 : decode cX12_polyline 127 = .ok (.aload_n 0, 1) := by decide +kernel
theorem dX12_polyline_128 : decode cX12_polyline 128 = .ok (.getfield 25, 3) := by decide +kernel
theorem dX12_polyline_131 : decode cX12_polyline 131 = .ok (.iconst 0, 1) := by decide +kernel
theorem dX12_polyline_132 : decode cX12_polyline 132 = .ok (.iaload, 1) := by decide +kernel
theorem dX12_polyline_133 : decode cX12_polyline 133 = .ok (.if_icmp .lt 6, 3) := by decide +kernel
theorem dX12_polyline_136 : decode cX12_polyline 136 = .ok (.ldc 90, 2) := by decide +kernel
theorem dX12_polyline_138 : decode cX12_polyline 138 = .ok (.ireturn, 1) := by decide +kernel
theorem dX12_polyline_139 : decode cX12_polyline 139 = .ok (.iconst 0, 1) := by decide +kernel
theorem dX12_polyline_140 : decode cX12_polyline 140 = .ok (.istore 6, 2) := by decide +kernel
theorem dX12_polyline_142 : decode cX12_polyline 142 = .ok (.iconst 0, 1) := by decide +kernel
theorem dX12_polyline_143 : decode cX12_polyline 143 = .ok (.istore 7, 2) := by decide +kernel
theorem dX12_polyline_145 : decode cX12_polyline 145 = .ok (.iload 7, 2) := by decide +kernel
theorem dX12_polyline_147 : decode cX12_polyline 147 = .ok (.iload 5, 2) := by decide +kernel
theorem dX12_polyline_149 : decode cX12_polyline 149 = .ok (.if_icmp .ge 18, 3) := by decide +kernel
theorem dX12_polyline_152 : decode cX12_polyline 152 = .ok (.aload_n 0, 1) := by decide +kernel
theorem dX12_polyline_153 : decode cX12_polyline 153 = .ok (.getfield 32, 3) := by decide +kernel
theorem dX12_polyline_156 : decode cX12_polyline 156 = .ok (.iload 6, 2) := by decide +kernel
theorem dX12_polyline_158 : decode cX12_polyline 158 = .ok (.iaload, 1) := by decide +kernel
theorem dX12_polyline_159 : decode cX12_polyline 159 = .ok (.istore 6, 2) := by decide +kernel
theorem dX12_polyline_161 : decode cX12_polyline 161 = .ok (.iinc 7 1, 3) := by decide +kernel
theorem dX12_polyline_164 : decode cX12_polyline 164 = .ok (.goto (-19), 3) := by decide +kernel
theorem dX12_polyline_167 : decode cX12_polyline 167 = .ok (.iload_n 2, 1) := by decide +kernel
theorem dX12_polyline_168 : decode cX12_polyline 168 = .ok (.iload 6, 2) := by decide +kernel
theorem dX12_polyline_170 : decode cX12_polyline 170 = .ok (.iadd, 1) := by decide +kernel
theorem dX12_polyline_171 : decode cX12_polyline 171 = .ok (.ireturn, 1) := by decide +kernel
theorem dX12_error_0 : decode cX12_error 0 = .ok (.iconst 0, 1) := by decide +kernel
theorem dX12_error_1 : decode cX12_error 1 = .ok (.istore 4, 2) := by decide +kernel
theorem dX12_error_3 : decode cX12_error 3 = .ok (.iload_n 2, 1) := by decide +kernel
theorem dX12_error_4 : decode cX12_error 4 = .ok (.istore 5, 2) := by decide +kernel
theorem dX12_error_6 : decode cX12_error 6 = .ok (.iload 5, 2) := by decide +kernel
theorem dX12_error_8 : decode cX12_error 8 = .ok (.iload_n 3, 1) := by decide +kernel
theorem dX12_error_9 : decode cX12_error 9 = .ok (.if_icmp .gt 36, 3) := by decide +kernel
theorem dX12_error_12 : decode cX12_error 12 = .ok (.iload 4, 2) := by decide +kernel
theorem dX12_error_14 : decode cX12_error 14 = .ok (.aload_n 0, 1) := by decide +kernel
theorem dX12_error_15 : decode cX12_error 15 = .ok (.iload_n 1, 1) := by decide +kernel
theorem dX12_error_16 : decode cX12_error 16 = .ok (.iload 5, 2) := by decide +kernel
theorem dX12_error_18 : decode cX12_error 18 = .ok (.invokevirtual 133, 3) := by decide +kernel
theorem dX12_error_21 : decode cX12_error 21 = .ok (.aload_n 0, 1) := by decide +kernel
theorem dX12_error_22 : decode cX12_error 22 = .ok (.getfield 19, 3) := by decide +kernel
theorem dX12_error_25 : decode cX12_error 25 = .ok (.iload 5, 2) := by decide +kernel
theorem dX12_error_27 : decode cX12_error 27 = .ok (.iload_n 2, 1) := by decide +kernel
theorem dX12_error_28 : decode cX12_error 28 = .ok (.isub, 1) := by decide +kernel
theorem dX12_error_29 : decode cX12_error 29 = .ok (.iaload, 1) := by decide +kernel
theorem dX12_error_30 : decode cX12_error 30 = .ok (.isub, 1) := by decide +kernel
theorem dX12_error_31 : decode cX12_error 31 = .ok (.invokestatic 102, 3) := by decide +kernel
theorem dX12_error_34 : decode cX12_error 34 = .ok (.invokestatic 112, 3) := by decide +kernel
theorem dX12_error_37 : decode cX12_error 37 = .ok (.istore 4, 2) := by decide +kernel
theorem dX12_error_39 : decode cX12_error 39 = .ok (.iinc 5 1, 3) := by decide +kernel
theorem dX12_error_42 : decode cX12_error 42 = .ok (.goto (-36), 3) := by decide +kernel
theorem dX12_error_45 : decode cX12_error 45 = .ok (.iload 4, 2) := by decide +kernel
theorem dX12_error_47 : decode cX12_error 47 = .ok (.ireturn, 1) := by decide +kernel
theorem dX12_takes_0 : decode cX12_takes 0 = .ok (.iconst 0, 1) := by decide +kernel
theorem dX12_takes_1 : decode cX12_takes 1 = .ok (.istore_n 3, 1) := by decide +kernel
theorem dX12_takes_2 : decode cX12_takes 2 = .ok (.iload_n 3, 1) := by decide +kernel
theorem dX12_takes_3 : decode cX12_takes 3 = .ok (.iconst 5, 1) := by decide +kernel
theorem dX12_takes_4 : decode cX12_takes 4 = .ok (.if_icmp .ge 31, 3) := by decide +kernel
theorem dX12_takes_7 : decode cX12_takes 7 = .ok (.aload_n 0, 1) := by decide +kernel
theorem dX12_takes_8 : decode cX12_takes 8 = .ok (.getfield 35, 3) := by decide +kernel
theorem dX12_takes_11 : decode cX12_takes 11 = .ok (.iload_n 3, 1) := by decide +kernel
theorem dX12_takes_12 : decode cX12_takes 12 = .ok (.aload_n 0, 1) := by decide +kernel
theorem dX12_takes_13 : decode cX12_takes 13 = .ok (.getfield 7, 3) := by decide +kernel
theorem dX12_takes_16 : decode cX12_takes 16 = .ok (.iload_n 1, 1) := by decide +kernel
theorem dX12_takes_17 : decode cX12_takes 17 = .ok (.iconst 4, 1) := by decide +kernel
theorem dX12_takes_18 : decode cX12_takes 18 = .ok (.bipush 24, 2) := by decide +kernel
theorem dX12_takes_20 : decode cX12_takes 20 = .ok (.iload_n 3, 1) := by decide +kernel
theorem dX12_takes_21 : decode cX12_takes 21 = .ok (.imul, 1) := by decide +kernel
theorem dX12_takes_22 : decode cX12_takes 22 = .ok (.iadd, 1) := by decide +kernel
theorem dX12_takes_23 : decode cX12_takes 23 = .ok (.iload_n 2, 1) := by decide +kernel
theorem dX12_takes_24 : decode cX12_takes 24 = .ok (.invokestatic 70, 3) := by decide +kernel
theorem dX12_takes_27 : decode cX12_takes 27 = .ok (.iaload, 1) := by decide +kernel
theorem dX12_takes_28 : decode cX12_takes 28 = .ok (.iastore, 1) := by decide +kernel
theorem dX12_takes_29 : decode cX12_takes 29 = .ok (.iinc 3 1, 3) := by decide +kernel
theorem dX12_takes_32 : decode cX12_takes 32 = .ok (.goto (-30), 3) := by decide +kernel
theorem dX12_takes_35 : decode cX12_takes 35 = .ok (.aload_n 0, 1) := by decide +kernel
theorem dX12_takes_36 : decode cX12_takes 36 = .ok (.iload_n 1, 1) := by decide +kernel
theorem dX12_takes_37 : decode cX12_takes 37 = .ok (.iload_n 2, 1) := by decide +kernel
theorem dX12_takes_38 : decode cX12_takes 38 = .ok (.invokevirtual 153, 3) := by decide +kernel
theorem dX12_takes_41 : decode cX12_takes 41 = .ok (.return_, 1) := by decide +kernel
theorem dX12_gives_0 : decode cX12_gives 0 = .ok (.aload_n 0, 1) := by decide +kernel
theorem dX12_gives_1 : decode cX12_gives 1 = .ok (.iload_n 1, 1) := by decide +kernel
theorem dX12_gives_2 : decode cX12_gives 2 = .ok (.aload_n 0, 1) := by decide +kernel
theorem dX12_gives_3 : decode cX12_gives 3 = .ok (.getfield 35, 3) := by decide +kernel
theorem dX12_gives_6 : decode cX12_gives 6 = .ok (.iconst 0, 1) := by decide +kernel
theorem dX12_gives_7 : decode cX12_gives 7 = .ok (.iaload, 1) := by decide +kernel
theorem dX12_gives_8 : decode cX12_gives 8 = .ok (.aload_n 0, 1) := by decide +kernel
theorem dX12_gives_9 : decode cX12_gives 9 = .ok (.getfield 35, 3) := by decide +kernel
theorem dX12_gives_12 : decode cX12_gives 12 = .ok (.iconst 1, 1) := by decide +kernel
theorem dX12_gives_13 : decode cX12_gives 13 = .ok (.iaload, 1) := by decide +kernel
theorem dX12_gives_14 : decode cX12_gives 14 = .ok (.aload_n 0, 1) := by decide +kernel
theorem dX12_gives_15 : decode cX12_gives 15 = .ok (.getfield 35, 3) := by decide +kernel
theorem dX12_gives_18 : decode cX12_gives 18 = .ok (.iconst 2, 1) := by decide +kernel
theorem dX12_gives_19 : decode cX12_gives 19 = .ok (.iaload, 1) := by decide +kernel
theorem dX12_gives_20 : decode cX12_gives 20 = .ok (.aload_n 0, 1) := by decide +kernel
theorem dX12_gives_21 : decode cX12_gives 21 = .ok (.getfield 35, 3) := by decide +kernel
theorem dX12_gives_24 : decode cX12_gives 24 = .ok (.iconst 3, 1) := by decide +kernel
theorem dX12_gives_25 : decode cX12_gives 25 = .ok (.iaload, 1) := by decide +kernel
theorem dX12_gives_26 : decode cX12_gives 26 = .ok (.aload_n 0, 1) := by decide +kernel
theorem dX12_gives_27 : decode cX12_gives 27 = .ok (.getfield 35, 3) := by decide +kernel
theorem dX12_gives_30 : decode cX12_gives 30 = .ok (.iconst 4, 1) := by decide +kernel
theorem dX12_gives_31 : decode cX12_gives 31 = .ok (.iaload, 1) := by decide +kernel
theorem dX12_gives_32 : decode cX12_gives 32 = .ok (.invokevirtual 149, 3) := by decide +kernel
theorem dX12_gives_35 : decode cX12_gives 35 = .ok (.istore_n 2, 1) := by decide +kernel
theorem dX12_gives_36 : decode cX12_gives 36 = .ok (.return_, 1) := by decide +kernel
theorem dX12_decimate_0 : decode cX12_decimate 0 = .ok (.iload_n 1, 1) := by decide +kernel
theorem dX12_decimate_1 : decode cX12_decimate 1 = .ok (.invokestatic 74, 3) := by decide +kernel
theorem dX12_decimate_4 : decode cX12_decimate 4 = .ok (.ifCond .ne 6, 3) := by decide +kernel
theorem dX12_decimate_7 : decode cX12_decimate 7 = .ok (.ldc 131, 2) := by decide +kernel
theorem dX12_decimate_9 : decode cX12_decimate 9 = .ok (.ireturn, 1) := by decide +kernel
theorem dX12_decimate_10 : decode cX12_decimate 10 = .ok (.iload_n 2, 1) := by decide +kernel
theorem dX12_decimate_11 : decode cX12_decimate 11 = .ok (.iconst 0, 1) := by decide +kernel
theorem dX12_decimate_12 : decode cX12_decimate 12 = .ok (.sipush 9999, 3) := by decide +kernel
theorem dX12_decimate_15 : decode cX12_decimate 15 = .ok (.invokestatic 66, 3) := by decide +kernel
theorem dX12_decimate_18 : decode cX12_decimate 18 = .ok (.ifCond .ne 6, 3) := by decide +kernel
theorem dX12_decimate_21 : decode cX12_decimate 21 = .ok (.ldc 132, 2) := by decide +kernel
theorem dX12_decimate_23 : decode cX12_decimate 23 = .ok (.ireturn, 1) := by decide +kernel
theorem dX12_decimate_24 : decode cX12_decimate 24 = .ok (.aload_n 0, 1) := by decide +kernel
theorem dX12_decimate_25 : decode cX12_decimate 25 = .ok (.invokevirtual 146, 3) := by decide +kernel
theorem dX12_decimate_28 : decode cX12_decimate 28 = .ok (.aload_n 0, 1) := by decide +kernel
theorem dX12_decimate_29 : decode cX12_decimate 29 = .ok (.iload_n 1, 1) := by decide +kernel
theorem dX12_decimate_30 : decode cX12_decimate 30 = .ok (.invokevirtual 78, 3) := by decide +kernel
theorem dX12_decimate_33 : decode cX12_decimate 33 = .ok (.istore_n 3, 1) := by decide +kernel
theorem dX12_decimate_34 : decode cX12_decimate 34 = .ok (.iload_n 3, 1) := by decide +kernel
