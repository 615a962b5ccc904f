theorem dX11_setKey_17 : decode cX11_setKey 17 = .ok (.ireturn, 1) := by decide +kernel
theorem dX11_setKey_18 : decode cX11_setKey 18 = .ok (.iload_n 2, 1) := by decide +kernel
theorem dX11_setKey_19 : decode cX11_setKey 19 = .ok (.iconst 0, 1) := by decide +kernel
theorem dX11_setKey_20 : decode cX11_setKey 20 = .ok (.sipush 480, 3) := by decide +kernel
theorem dX11_setKey_23 : decode cX11_setKey 23 = .ok (.invokestatic 74, 3) := by decide +kernel
theorem dX11_setKey_26 : decode cX11_setKey 26 = .ok (.ifCond .eq 16, 3) := by decide +kernel
theorem dX11_setKey_29 : decode cX11_setKey 29 = .ok (.iload_n 3, 1) := by decide +kernel
theorem dX11_setKey_30 : decode cX11_setKey 30 = .ok (.sipush (-999), 3) := by decide +kernel
theorem dX11_setKey_33 : decode cX11_setKey 33 = .ok (.sipush 999, 3) := by decide +kernel
theorem dX11_setKey_36 : decode cX11_setKey 36 = .ok (.invokestatic 74, 3) := by decide +kernel
theorem dX11_setKey_39 : decode cX11_setKey 39 = .ok (.ifCond .ne 6, 3) := by decide +kernel
theorem dX11_setKey_42 : decode cX11_setKey 42 = .ok (.ldc 78, 2) := by decide +kernel
theorem dX11_setKey_44 : decode cX11_setKey 44 = .ok (.ireturn, 1) := by decide +kernel
theorem dX11_setKey_45 : decode cX11_setKey 45 = .ok (.aload 4, 2) := by decide +kernel
theorem dX11_setKey_47 : decode cX11_setKey 47 = .ok (.iload_n 2, 1) := by decide +kernel
theorem dX11_setKey_48 : decode cX11_setKey 48 = .ok (.invokevirtual 79, 3) := by decide +kernel
theorem dX11_setKey_51 : decode cX11_setKey 51 = .ok (.istore 5, 2) := by decide +kernel
theorem dX11_setKey_53 : decode cX11_setKey 53 = .ok (.iload 5, 2) := by decide +kernel
theorem dX11_setKey_55 : decode cX11_setKey 55 = .ok (.ifCond .ge 16, 3) := by decide +kernel
theorem dX11_setKey_58 : decode cX11_setKey 58 = .ok (.aload 4, 2) := by decide +kernel
theorem dX11_setKey_60 : decode cX11_setKey 60 = .ok (.getfield 85, 3) := by decide +kernel
theorem dX11_setKey_63 : decode cX11_setKey 63 = .ok (.bipush 24, 2) := by decide +kernel
theorem dX11_setKey_65 : decode cX11_setKey 65 = .ok (.if_icmp .lt 6, 3) := by decide +kernel
theorem dX11_setKey_68 : decode cX11_setKey 68 = .ok (.ldc 89, 2) := by decide +kernel
theorem dX11_setKey_70 : decode cX11_setKey 70 = .ok (.ireturn, 1) := by decide +kernel
theorem dX11_setKey_71 : decode cX11_setKey 71 = .ok (.aload_n 0, 1) := by decide +kernel
theorem dX11_setKey_72 : decode cX11_setKey 72 = .ok (.getfield 19, 3) := by decide +kernel
theorem dX11_setKey_75 : decode cX11_setKey 75 = .ok (.aload_n 0, 1) := by decide +kernel
theorem dX11_setKey_76 : decode cX11_setKey 76 = .ok (.getfield 10, 3) := by decide +kernel
theorem dX11_setKey_79 : decode cX11_setKey 79 = .ok (.invokevirtual 90, 3) := by decide +kernel
theorem dX11_setKey_82 : decode cX11_setKey 82 = .ok (.iload 5, 2) := by decide +kernel
theorem dX11_setKey_84 : decode cX11_setKey 84 = .ok (.ifCond .ge 17, 3) := by decide +kernel
theorem dX11_setKey_87 : decode cX11_setKey 87 = .ok (.aload 4, 2) := by decide +kernel
theorem dX11_setKey_89 : decode cX11_setKey 89 = .ok (.iload_n 2, 1) := by decide +kernel
theorem dX11_setKey_90 : decode cX11_setKey 90 = .ok (.iload_n 3, 1) := by decide +kernel
theorem dX11_setKey_91 : decode cX11_setKey 91 = .ok (.iconst 3, 1) := by decide +kernel
theorem dX11_setKey_92 : decode cX11_setKey 92 = .ok (.iconst 0, 1) := by decide +kernel
theorem dX11_setKey_93 : decode cX11_setKey 93 = .ok (.iconst 0, 1) := by decide +kernel
theorem dX11_setKey_94 : decode cX11_setKey 94 = .ok (.invokevirtual 94, 3) := by decide +kernel
theorem dX11_setKey_97 : decode cX11_setKey 97 = .ok (.pop, 1) := by decide +kernel
theorem dX11_setKey_98 : decode cX11_setKey 98 = .ok (.goto 14, 3) := by decide +kernel
theorem dX11_setKey_101 : decode cX11_setKey 101 = .ok (.aload 4, 2) := by decide +kernel
theorem dX11_setKey_103 : decode cX11_setKey 103 = .ok (.getfield 98, 3) := by decide +kernel
theorem dX11_setKey_106 : decode cX11_setKey 106 = .ok (.iload 5, 2) := by decide +kernel
theorem dX11_setKey_108 : decode cX11_setKey 108 = .ok (.iload_n 3, 1) := by decide +kernel
theorem dX11_setKey_109 : decode cX11_setKey 109 = .ok (.invokestatic 101, 3) := by decide +kernel
theorem dX11_setKey_112 : decode cX11_setKey 112 = .ok (.aload 4, 2) := by decide +kernel
theorem dX11_setKey_114 : decode cX11_setKey 114 = .ok (.getfield 85, 3) := by decide +kernel
theorem dX11_setKey_117 : decode cX11_setKey 117 = .ok (.ireturn, 1) := by decide +kernel
theorem dX11_removeKey_0 : decode cX11_removeKey 0 = .ok (.aload_n 0, 1) := by decide +kernel
theorem dX11_removeKey_1 : decode cX11_removeKey 1 = .ok (.getfield 10, 3) := by decide +kernel
theorem dX11_removeKey_4 : decode cX11_removeKey 4 = .ok (.iload_n 1, 1) := by decide +kernel
theorem dX11_removeKey_5 : decode cX11_removeKey 5 = .ok (.invokevirtual 69, 3) := by decide +kernel
theorem dX11_removeKey_8 : decode cX11_removeKey 8 = .ok (.astore_n 3, 1) := by decide +kernel
theorem dX11_removeKey_9 : decode cX11_removeKey 9 = .ok (.aload_n 3, 1) := by decide +kernel
theorem dX11_removeKey_10 : decode cX11_removeKey 10 = .ok (.ifnonnull 7, 3) := by decide +kernel
theorem dX11_removeKey_13 : decode cX11_removeKey 13 = .ok (.iconst (-1), 1) := by decide +kernel
theorem dX11_removeKey_14 : decode cX11_removeKey 14 = .ok (.goto 8, 3) := by decide +kernel
theorem dX11_removeKey_17 : decode cX11_removeKey 17 = .ok (.aload_n 3, 1) := by decide +kernel
theorem dX11_removeKey_18 : decode cX11_removeKey 18 = .ok (.iload_n 2, 1) := by decide +kernel
theorem dX11_removeKey_19 : decode cX11_removeKey 19 = .ok (.invokevirtual 79, 3) := by decide +kernel
theorem dX11_removeKey_22 : decode cX11_removeKey 22 = .ok (.istore 4, 2) := by decide +kernel
theorem dX11_removeKey_24 : decode cX11_removeKey 24 = .ok (.aload_n 3, 1) := by decide +kernel
theorem dX11_removeKey_25 : decode cX11_removeKey 25 = .ok (.ifnull 8, 3) := by decide +kernel
theorem dX11_removeKey_28 : decode cX11_removeKey 28 = .ok (.iload 4, 2) := by decide +kernel
theorem dX11_removeKey_30 : decode cX11_removeKey 30 = .ok (.ifCond .ge 6, 3) := by decide +kernel
theorem dX11_removeKey_33 : decode cX11_removeKey 33 = .ok (.ldc 73, 2) := by decide +kernel
theorem dX11_removeKey_35 : decode cX11_removeKey 35 = .ok (.ireturn, 1) := by decide +kernel
theorem dX11_removeKey_36 : decode cX11_removeKey 36 = .ok (.aload_n 0, 1) := by decide +kernel
theorem dX11_removeKey_37 : decode cX11_removeKey 37 = .ok (.getfield 19, 3) := by decide +kernel
theorem dX11_removeKey_40 : decode cX11_removeKey 40 = .ok (.aload_n 0, 1) := by decide +kernel
theorem dX11_removeKey_41 : decode cX11_removeKey 41 = .ok (.getfield 10, 3) := by decide +kernel
theorem dX11_removeKey_44 : decode cX11_removeKey 44 = .ok (.invokevirtual 90, 3) := by decide +kernel
theorem dX11_removeKey_47 : decode cX11_removeKey 47 = .ok (.aload_n 3, 1) := by decide +kernel
theorem dX11_removeKey_48 : decode cX11_removeKey 48 = .ok (.iload 4, 2) := by decide +kernel
theorem dX11_removeKey_50 : decode cX11_removeKey 50 = .ok (.invokevirtual 105, 3) := by decide +kernel
theorem dX11_removeKey_53 : decode cX11_removeKey 53 = .ok (.aload_n 3, 1) := by decide +kernel
theorem dX11_removeKey_54 : decode cX11_removeKey 54 = .ok (.getfield 85, 3) := by decide +kernel
theorem dX11_removeKey_57 : decode cX11_removeKey 57 = .ok (.ireturn, 1) := by decide +kernel
theorem dX11_moveKey_0 : decode cX11_moveKey 0 = .ok (.aload_n 0, 1) := by decide +kernel
theorem dX11_moveKey_1 : decode cX11_moveKey 1 = .ok (.getfield 10, 3) := by decide +kernel
theorem dX11_moveKey_4 : decode cX11_moveKey 4 = .ok (.iload_n 1, 1) := by decide +kernel
theorem dX11_moveKey_5 : decode cX11_moveKey 5 = .ok (.invokevirtual 69, 3) := by decide +kernel
theorem dX11_moveKey_8 : decode cX11_moveKey 8 = .ok (.astore 4, 2) := by decide +kernel
theorem dX11_moveKey_10 : decode cX11_moveKey 10 = .ok (.aload 4, 2) := by decide +kernel
theorem dX11_moveKey_12 : decode cX11_moveKey 12 = .ok (.ifnonnull 7, 3) := by decide +kernel
theorem dX11_moveKey_15 : decode cX11_moveKey 15 = .ok (.iconst (-1), 1) := by decide +kernel
theorem dX11_moveKey_16 : decode cX11_moveKey 16 = .ok (.goto 9, 3) := by decide +kernel
theorem dX11_moveKey_19 : decode cX11_moveKey 19 = .ok (.aload 4, 2) := by decide +kernel
theorem dX11_moveKey_21 : decode cX11_moveKey 21 = .ok (.iload_n 2, 1) := by decide +kernel
theorem dX11_moveKey_22 : decode cX11_moveKey 22 = .ok (.invokevirtual 79, 3) := by decide +kernel
theorem dX11_moveKey_25 : decode cX11_moveKey 25 = .ok (.istore 5, 2) := by decide +kernel
theorem dX11_moveKey_27 : decode cX11_moveKey 27 = .ok (.aload 4, 2) := by decide +kernel
theorem dX11_moveKey_29 : decode cX11_moveKey 29 = .ok (.ifnull 8, 3) := by decide +kernel
theorem dX11_moveKey_32 : decode cX11_moveKey 32 = .ok (.iload 5, 2) := by decide +kernel
theorem dX11_moveKey_34 : decode cX11_moveKey 34 = .ok (.ifCond .ge 6, 3) := by decide +kernel
theorem dX11_moveKey_37 : decode cX11_moveKey 37 = .ok (.ldc 73, 2) := by decide +kernel
theorem dX11_moveKey_39 : decode cX11_moveKey 39 = .ok (.ireturn, 1) := by decide +kernel
theorem dX11_moveKey_40 : decode cX11_moveKey 40 = .ok (.iload_n 3, 1) := by decide +kernel
theorem dX11_moveKey_41 : decode cX11_moveKey 41 = .ok (.iconst 0, 1) := by decide +kernel
theorem dX11_moveKey_42 : decode cX11_moveKey 42 = .ok (.sipush 480, 3) := by decide +kernel
theorem dX11_moveKey_45 : decode cX11_moveKey 45 = .ok (.invokestatic 74, 3) := by decide +kernel
theorem dX11_moveKey_48 : decode cX11_moveKey 48 = .ok (.ifCond .ne 6, 3) := by decide +kernel
theorem dX11_moveKey_51 : decode cX11_moveKey 51 = .ok (.ldc 78, 2) := by decide +kernel
theorem dX11_moveKey_53 : decode cX11_moveKey 53 = .ok (.ireturn, 1) := by decide +kernel
theorem dX11_moveKey_54 : decode cX11_moveKey 54 = .ok (.iload_n 3, 1) := by decide +kernel
theorem dX11_moveKey_55 : decode cX11_moveKey 55 = .ok (.iload_n 2, 1) := by decide +kernel
theorem dX11_moveKey_56 : decode cX11_moveKey 56 = .ok (.if_icmp .eq 15, 3) := by decide +kernel
theorem dX11_moveKey_59 : decode cX11_moveKey 59 = .ok (.aload 4, 2) := by decide +kernel
theorem dX11_moveKey_61 : decode cX11_moveKey 61 = .ok (.iload_n 3, 1) := by decide +kernel
theorem dX11_moveKey_62 : decode cX11_moveKey 62 = .ok (.invokevirtual 79, 3) := by decide +kernel
theorem dX11_moveKey_65 : decode cX11_moveKey 65 = .ok (.ifCond .lt 6, 3) := by decide +kernel
theorem dX11_moveKey_68 : decode cX11_moveKey 68 = .ok (.ldc 109, 2) := by decide +kernel
theorem dX11_moveKey_70 : decode cX11_moveKey 70 = .ok (.ireturn, 1) := by decide +kernel
theorem dX11_moveKey_71 : decode cX11_moveKey 71 = .ok (.aload_n 0, 1) := by decide +kernel
theorem dX11_moveKey_72 : decode cX11_moveKey 72 = .ok (.getfield 19, 3) := by decide +kernel
theorem dX11_moveKey_75 : decode cX11_moveKey 75 = .ok (.aload_n 0, 1) := by decide +kernel
theorem dX11_moveKey_76 : decode cX11_moveKey 76 = .ok (.getfield 10, 3) := by decide +kernel
theorem dX11_moveKey_79 : decode cX11_moveKey 79 = .ok (.invokevirtual 90, 3) := by decide +kernel
theorem dX11_moveKey_82 : decode cX11_moveKey 82 = .ok (.aload 4, 2) := by decide +kernel
theorem dX11_moveKey_84 : decode cX11_moveKey 84 = .ok (.iload 5, 2) := by decide +kernel
theorem dX11_moveKey_86 : decode cX11_moveKey 86 = .ok (.iload_n 3, 1) := by decide +kernel
theorem dX11_moveKey_87 : decode cX11_moveKey 87 = .ok (.invokevirtual 110, 3) := by decide +kernel
theorem dX11_moveKey_90 : decode cX11_moveKey 90 = .ok (.ireturn, 1) := by decide +kernel
theorem dX11_setMode_0 : decode cX11_setMode 0 = .ok (.aload_n 0, 1) := by decide +kernel
theorem dX11_setMode_1 : decode cX11_setMode 1 = .ok (.getfield 10, 3) := by decide +kernel
theorem dX11_setMode_4 : decode cX11_setMode 4 = .ok (.iload_n 1, 1) := by decide +kernel
theorem dX11_setMode_5 : decode cX11_setMode 5 = .ok (.invokevirtual 69, 3) := by decide +kernel
theorem dX11_setMode_8 : decode cX11_setMode 8 = .ok (.astore 4, 2) := by decide +kernel
theorem dX11_setMode_10 : decode cX11_setMode 10 = .ok (.aload 4, 2) := by decide +kernel
theorem dX11_setMode_12 : decode cX11_setMode 12 = .ok (.ifnonnull 7, 3) := by decide +kernel
theorem dX11_setMode_15 : decode cX11_setMode 15 = .ok (.iconst (-1), 1) := by decide +kernel
theorem dX11_setMode_16 : decode cX11_setMode 16 = .ok (.goto 9, 3) := by decide +kernel
theorem dX11_setMode_19 : decode cX11_setMode 19 = .ok (.aload 4, 2) := by decide +kernel
theorem dX11_setMode_21 : decode cX11_setMode 21 = .ok (.iload_n 2, 1) := by decide +kernel
theorem dX11_setMode_22 : decode cX11_setMode 22 = .ok (.invokevirtual 79, 3) := by decide +kernel
theorem dX11_setMode_25 : decode cX11_setMode 25 = .ok (.istore 5, 2) := by decide +kernel
theorem dX11_setMode_27 : decode cX11_setMode 27 = .ok (.aload 4, 2) := by decide +kernel
theorem dX11_setMode_29 : decode cX11_setMode 29 = .ok (.ifnull 8, 3) := by decide +kernel
theorem dX11_setMode_32 : decode cX11_setMode 32 = .ok (.iload 5, 2) := by decide +kernel
theorem dX11_setMode_34 : decode cX11_setMode 34 = .ok (.ifCond .ge 6, 3) := by decide +kernel
theorem dX11_setMode_37 : decode cX11_setMode 37 = .ok (.ldc 73, 2) := by decide +kernel
theorem dX11_setMode_39 : decode cX11_setMode 39 = .ok (.ireturn, 1) := by decide +kernel
theorem dX11_setMode_40 : decode cX11_setMode 40 = .ok (.iload_n 3, 1) := by decide +kernel
theorem dX11_setMode_41 : decode cX11_setMode 41 = .ok (.iconst 0, 1) := by decide +kernel
theorem dX11_setMode_42 : decode cX11_setMode 42 = .ok (.bipush 6, 2) := by decide +kernel
theorem dX11_setMode_44 : decode cX11_setMode 44 = .ok (.invokestatic 74, 3) := by decide +kernel
theorem dX11_setMode_47 : decode cX11_setMode 47 = .ok (.ifCond .ne 6, 3) := by decide +kernel
theorem dX11_setMode_50 : decode cX11_setMode 50 = .ok (.ldc 78, 2) := by decide +kernel
theorem dX11_setMode_52 : decode cX11_setMode 52 = .ok (.ireturn, 1) := by decide +kernel
theorem dX11_setMode_53 : decode cX11_setMode 53 = .ok (.aload 4, 2) := by decide +kernel
theorem dX11_setMode_55 : decode cX11_setMode 55 = .ok (.getfield 114, 3) := by decide +kernel
theorem dX11_setMode_58 : decode cX11_setMode 58 = .ok (.iload 5, 2) := by decide +kernel
theorem dX11_setMode_60 : decode cX11_setMode 60 = .ok (.invokestatic 117, 3) := by decide +kernel
theorem dX11_setMode_63 : decode cX11_setMode 63 = .ok (.istore 6, 2) := by decide +kernel
theorem dX11_setMode_65 : decode cX11_setMode 65 = .ok (.aload_n 0, 1) := by decide +kernel
theorem dX11_setMode_66 : decode cX11_setMode 66 = .ok (.getfield 19, 3) := by decide +kernel
theorem dX11_setMode_69 : decode cX11_setMode 69 = .ok (.aload_n 0, 1) := by decide +kernel
theorem dX11_setMode_70 : decode cX11_setMode 70 = .ok (.getfield 10, 3) := by decide +kernel
theorem dX11_setMode_73 : decode cX11_setMode 73 = .ok (.invokevirtual 90, 3) := by decide +kernel
theorem dX11_setMode_76 : decode cX11_setMode 76 = .ok (.aload 4, 2) := by decide +kernel
theorem dX11_setMode_78 : decode cX11_setMode 78 = .ok (.iload 5, 2) := by decide +kernel
theorem dX11_setMode_80 : decode cX11_setMode 80 = .ok (.iload_n 3, 1) := by decide +kernel
theorem dX11_setMode_81 : decode cX11_setMode 81 = .ok (.invokevirtual 121, 3) := by decide +kernel
theorem dX11_setMode_84 : decode cX11_setMode 84 = .ok (.iload 6, 2) := by decide +kernel
theorem dX11_setMode_86 : decode cX11_setMode 86 = .ok (.ireturn, 1) := by decide +kernel
theorem dX11_setSlopes_0 : decode cX11_setSlopes 0 = .ok (.aload_n 0, 1) := by decide +kernel
theorem dX11_setSlopes_1 : decode cX11_setSlopes 1 = .ok (.getfield 10, 3) := by decide +kernel
theorem dX11_setSlopes_4 : decode cX11_setSlopes 4 = .ok (.iload_n 1, 1) := by decide +kernel
theorem dX11_setSlopes_5 : decode cX11_setSlopes 5 = .ok (.invokevirtual 69, 3) := by decide +kernel
theorem dX11_setSlopes_8 : decode cX11_setSlopes 8 = .ok (.astore 5, 2) := by decide +kernel
theorem dX11_setSlopes_10 : decode cX11_setSlopes 10 = .ok (.aload 5, 2) := by decide +kernel
theorem dX11_setSlopes_12 : decode cX11_setSlopes 12 = .ok (.ifnonnull 7, 3) := by decide +kernel
theorem dX11_setSlopes_15 : decode cX11_setSlopes 15 = .ok (.iconst (-1), 1) := by decide +kernel
theorem dX11_setSlopes_16 : decode cX11_setSlopes 16 = .ok (.goto 9, 3) := by decide +kernel
theorem dX11_setSlopes_19 : decode cX11_setSlopes 19 = .ok (.aload 5, 2) := by decide +kernel
theorem dX11_setSlopes_21 : decode cX11_setSlopes 21 = .ok (.iload_n 2, 1) := by decide +kernel
theorem dX11_setSlopes_22 : decode cX11_setSlopes 22 = .ok (.invokevirtual 79, 3) := by decide +kernel
theorem dX11_setSlopes_25 : decode cX11_setSlopes 25 = .ok (.istore 6, 2) := by decide +kernel
theorem dX11_setSlopes_27 : decode cX11_setSlopes 27 = .ok (.aload 5, 2) := by decide +kernel
theorem dX11_setSlopes_29 : decode cX11_setSlopes 29 = .ok (.ifnull 8, 3) := by decide +kernel
theorem dX11_setSlopes_32 : decode cX11_setSlopes 32 = .ok (.iload 6, 2) := by decide +kernel
theorem dX11_setSlopes_34 : decode cX11_setSlopes 34 = .ok (.ifCond .ge 6, 3) := by decide +kernel
theorem dX11_setSlopes_37 : decode cX11_setSlopes 37 = .ok (.ldc 73, 2) := by decide +kernel
theorem dX11_setSlopes_39 : decode cX11_setSlopes 39 = .ok (.ireturn, 1) := by decide +kernel
theorem dX11_setSlopes_40 : decode cX11_setSlopes 40 = .ok (.iload_n 3, 1) := by decide +kernel
theorem dX11_setSlopes_41 : decode cX11_setSlopes 41 = .ok (.sipush (-9999), 3) := by decide +kernel
theorem dX11_setSlopes_44 : decode cX11_setSlopes 44 = .ok (.sipush 9999, 3) := by decide +kernel
theorem dX11_setSlopes_47 : decode cX11_setSlopes 47 = .ok (.invokestatic 74, 3) := by decide +kernel
theorem dX11_setSlopes_50 : decode cX11_setSlopes 50 = .ok (.ifCond .eq 17, 3) := by decide +kernel
theorem dX11_setSlopes_53 : decode cX11_setSlopes 53 = .ok (.iload 4, 2) := by decide +kernel
theorem dX11_setSlopes_55 : decode cX11_setSlopes 55 = .ok (.sipush (-9999), 3) := by decide +kernel
theorem dX11_setSlopes_58 : decode cX11_setSlopes 58 = .ok (.sipush 9999, 3) := by decide +kernel
theorem dX11_setSlopes_61 : decode cX11_setSlopes 61 = .ok (.invokestatic 74, 3) := by decide +kernel
theorem dX11_setSlopes_64 : decode cX11_setSlopes 64 = .ok (.ifCond .ne 6, 3) := by decide +kernel
theorem dX11_setSlopes_67 : decode cX11_setSlopes 67 = .ok (.ldc 78, 2) := by decide +kernel
theorem dX11_setSlopes_69 : decode cX11_setSlopes 69 = .ok (.ireturn, 1) := by decide +kernel
theorem dX11_setSlopes_70 : decode cX11_setSlopes 70 = .ok (.aload 5, 2) := by decide +kernel
theorem dX11_setSlopes_72 : decode cX11_setSlopes 72 = .ok (.getfield 114, 3) := by decide +kernel
theorem dX11_setSlopes_75 : decode cX11_setSlopes 75 = .ok (.iload 6, 2) := by decide +kernel
theorem dX11_setSlopes_77 : decode cX11_setSlopes 77 = .ok (.invokestatic 117, 3) := by decide +kernel
theorem dX11_setSlopes_80 : decode cX11_setSlopes 80 = .ok (.istore 7, 2) := by decide +kernel
theorem dX11_setSlopes_82 : decode cX11_setSlopes 82 = .ok (.aload_n 0, 1) := by decide +kernel
theorem dX11_setSlopes_83 : decode cX11_setSlopes 83 = .ok (.getfield 19, 3) := by decide +kernel
theorem dX11_setSlopes_86 : decode cX11_setSlopes 86 = .ok (.aload_n 0, 1) := by decide +kernel
theorem dX11_setSlopes_87 : decode cX11_setSlopes 87 = .ok (.getfield 10, 3) := by decide +kernel
theorem dX11_setSlopes_90 : decode cX11_setSlopes 90 = .ok (.invokevirtual 90, 3) := by decide +kernel
theorem dX11_setSlopes_93 : decode cX11_setSlopes 93 = .ok (.aload 5, 2) := by decide +kernel
theorem dX11_setSlopes_95 : decode cX11_setSlopes 95 = .ok (.getfield 114, 3) := by decide +kernel
theorem dX11_setSlopes_98 : decode cX11_setSlopes 98 = .ok (.iload 6, 2) := by decide +kernel
theorem dX11_setSlopes_100 : decode cX11_setSlopes 100 = .ok (.iconst 0, 1) := by decide +kernel
theorem dX11_setSlopes_101 : decode cX11_setSlopes 101 = .ok (.invokestatic 101, 3) := by decide +kernel
theorem dX11_setSlopes_104 : decode cX11_setSlopes 104 = .ok (.aload 5, 2) := by decide +kernel
theorem dX11_setSlopes_106 : decode cX11_setSlopes 106 = .ok (.getfield 125, 3) := by decide +kernel
theorem dX11_setSlopes_109 : decode cX11_setSlopes 109 = .ok (.iload 6, 2) := by decide +kernel
theorem dX11_setSlopes_111 : decode cX11_setSlopes 111 = .ok (.iload_n 3, 1) := by decide +kernel
theorem dX11_setSlopes_112 : decode cX11_setSlopes 112 = .ok (.invokestatic 101, 3) := by decide +kernel
theorem dX11_setSlopes_115 : decode cX11_setSlopes 115 = .ok (.aload 5, 2) := by decide +kernel
theorem dX11_setSlopes_117 : decode cX11_setSlopes 117 = .ok (.getfield 128, 3) := by decide +kernel
theorem dX11_setSlopes_120 : decode cX11_setSlopes 120 = .ok (.iload 6, 2) := by decide +kernel
theorem dX11_setSlopes_122 : decode cX11_setSlopes 122 = .ok (.iload 4, 2) := by decide +kernel
theorem dX11_setSlopes_124 : decode cX11_setSlopes 124 = .ok (.invokestatic 101, 3) := by decide +kernel
theorem dX11_setSlopes_127 : decode cX11_setSlopes 127 = .ok (.iload 7, 2) := by decide +kernel
theorem dX11_setSlopes_129 : decode cX11_setSlopes 129 = .ok (.ireturn, 1) := by decide +kernel
theorem dX11_split_0 : decode cX11_split 0 = .ok (.aload_n 0, 1) := by decide +kernel
theorem dX11_split_1 : decode cX11_split 1 = .ok (.getfield 10, 3) := by decide +kernel
theorem dX11_split_4 : decode cX11_split 4 = .ok (.iload_n 1, 1) := by decide +kernel
theorem dX11_split_5 : decode cX11_split 5 = .ok (.invokevirtual 69, 3) := by decide +kernel
theorem dX11_split_8 : decode cX11_split 8 = .ok (.astore_n 3, 1) := by decide +kernel
theorem dX11_split_9 : decode cX11_split 9 = .ok (.aload_n 3, 1) := by decide +kernel
theorem dX11_split_10 : decode cX11_split 10 = .ok (.ifnonnull 6, 3) := by decide +kernel
theorem dX11_split_13 : decode cX11_split 13 = .ok (.ldc 73, 2) := by decide +kernel
theorem dX11_split_15 : decode cX11_split 15 = .ok (.ireturn, 1) := by decide +kernel
theorem dX11_split_16 : decode cX11_split 16 = .ok (.aload_n 3, 1) := by decide +kernel
theorem dX11_split_17 : decode cX11_split 17 = .ok (.iload_n 2, 1) := by decide +kernel
theorem dX11_split_18 : decode cX11_split 18 = .ok (.invokevirtual 131, 3) := by decide +kernel
theorem dX11_split_21 : decode cX11_split 21 = .ok (.istore 4, 2) := by decide +kernel
theorem dX11_split_23 : decode cX11_split 23 = .ok (.iload 4, 2) := by decide +kernel
theorem dX11_split_25 : decode cX11_split 25 = .ok (.iconst 1, 1) := by decide +kernel
theorem dX11_split_26 : decode cX11_split 26 = .ok (.if_icmp .lt 20, 3) := by decide +kernel
theorem dX11_split_29 : decode cX11_split 29 = .ok (.iload 4, 2) := by decide +kernel
theorem dX11_split_31 : decode cX11_split 31 = .ok (.aload_n 3, 1) := by decide +kernel
theorem dX11_split_32 : decode cX11_split 32 = .ok (.getfield 85, 3) := by decide +kernel
theorem dX11_split_35 : decode cX11_split 35 = .ok (.if_icmp .ge 11, 3) := by decide +kernel
theorem dX11_split_38 : decode cX11_split 38 = .ok (.aload_n 3, 1) := by decide +kernel
theorem dX11_split_39 : decode cX11_split 39 = .ok (.iload_n 2, 1) := by decide +kernel
theorem dX11_split_40 : decode cX11_split 40 = .ok (.invokevirtual 79, 3) := by decide +kernel
theorem dX11_split_43 : decode cX11_split 43 = .ok (.ifCond .lt 6, 3) := by decide +kernel
theorem dX11_split_46 : decode cX11_split 46 = .ok (.ldc 78, 2) := by decide +kernel
theorem dX11_split_48 : decode cX11_split 48 = .ok (.ireturn, 1) := by decide +kernel
theorem dX11_split_49 : decode cX11_split 49 = .ok (.aload_n 3, 1) := by decide +kernel
theorem dX11_split_50 : decode cX11_split 50 = .ok (.getfield 85, 3) := by decide +kernel
theorem dX11_split_53 : decode cX11_split 53 = .ok (.bipush 24, 2) := by decide +kernel
theorem dX11_split_55 : decode cX11_split 55 = .ok (.if_icmp .lt 6, 3) := by decide +kernel
theorem dX11_split_58 : decode cX11_split 58 = .ok (.ldc 89, 2) := by decide +kernel
theorem dX11_split_60 : decode cX11_split 60 = .ok (.ireturn, 1) := by decide +kernel
theorem dX11_split_61 : decode cX11_split 61 = .ok (.aload_n 0, 1) := by decide +kernel
theorem dX11_split_62 : decode cX11_split 62 = .ok (.getfield 19, 3) := by decide +kernel
theorem dX11_split_65 : decode cX11_split 65 = .ok (.aload_n 0, 1) := by decide +kernel
theorem dX11_split_66 : decode cX11_split 66 = .ok (.getfield 10, 3) := by decide +kernel
theorem dX11_split_69 : decode cX11_split 69 = .ok (.invokevirtual 90, 3) := by decide +kernel
theorem dX11_split_72 : decode cX11_split 72 = .ok (.aload_n 3, 1) := by decide +kernel
theorem dX11_split_73 : decode cX11_split 73 = .ok (.iload_n 2, 1) := by decide +kernel
theorem dX11_split_74 : decode cX11_split 74 = .ok (.iload 4, 2) := by decide +kernel
theorem dX11_split_76 : decode cX11_split 76 = .ok (.invokevirtual 134, 3) := by decide +kernel
theorem dX11_split_79 : decode cX11_split 79 = .ok (.ireturn, 1) := by decide +kernel
theorem dX11_clear_0 : decode cX11_clear 0 = .ok (.aload_n 0, 1) := by decide +kernel
theorem dX11_clear_1 : decode cX11_clear 1 = .ok (.getfield 10, 3) := by decide +kernel
theorem dX11_clear_4 : decode cX11_clear 4 = .ok (.iload_n 1, 1) := by decide +kernel
theorem dX11_clear_5 : decode cX11_clear 5 = .ok (.invokevirtual 69, 3) := by decide +kernel
theorem dX11_clear_8 : decode cX11_clear 8 = .ok (.astore_n 2, 1) := by decide +kernel
theorem dX11_clear_9 : decode cX11_clear 9 = .ok (.aload_n 2, 1) := by decide +kernel
theorem dX11_clear_10 : decode cX11_clear 10 = .ok (.ifnonnull 6, 3) := by decide +kernel
theorem dX11_clear_13 : decode cX11_clear 13 = .ok (.ldc 73, 2) := by decide +kernel
theorem dX11_clear_15 : decode cX11_clear 15 = .ok (.ireturn, 1) := by decide +kernel
theorem dX11_clear_16 : decode cX11_clear 16 = .ok (.aload_n 0, 1) := by decide +kernel
theorem dX11_clear_17 : decode cX11_clear 17 = .ok (.getfield 19, 3) := by decide +kernel
theorem dX11_clear_20 : decode cX11_clear 20 = .ok (.aload_n 0, 1) := by decide +kernel
theorem dX11_clear_21 : decode cX11_clear 21 = .ok (.getfield 10, 3) := by decide +kernel
theorem dX11_clear_24 : decode cX11_clear 24 = .ok (.invokevirtual 90, 3) := by decide +kernel
theorem dX11_clear_27 : decode cX11_clear 27 = .ok (.aload_n 2, 1) := by decide +kernel
theorem dX11_clear_28 : decode cX11_clear 28 = .ok (.getfield 85, 3) := by decide +kernel
theorem dX11_clear_31 : decode cX11_clear 31 = .ok (.istore_n 3, 1) := by decide +kernel
theorem dX11_clear_32 : decode cX11_clear 32 = .ok (.aload_n 2, 1) := by decide +kernel
theorem dX11_clear_33 : decode cX11_clear 33 = .ok (.iconst 0, 1) := by decide +kernel
theorem dX11_clear_34 : decode cX11_clear 34 = .ok (.putfield 85, 3) := by decide +kernel
theorem dX11_clear_37 : decode cX11_clear 37 = .ok (.aload_n 2, 1) := by decide +kernel
theorem dX11_clear_38 : decode cX11_clear 38 = .ok (.iconst 0, 1) := by decide +kernel
theorem dX11_clear_39 : decode cX11_clear 39 = .ok (.putfield 137, 3) := by decide +kernel
theorem dX11_clear_42 : decode cX11_clear 42 = .ok (.aload_n 2, 1) := by decide +kernel
theorem dX11_clear_43 : decode cX11_clear 43 = .ok (.iconst 0, 1) := by decide +kernel
theorem dX11_clear_44 : decode cX11_clear 44 = .ok (.putfield 140, 3) := by decide +kernel
theorem dX11_clear_47 : decode cX11_clear 47 = .ok (.iload_n 3, 1) := by decide +kernel
theorem dX11_clear_48 : decode cX11_clear 48 = .ok (.ireturn, 1) := by decide +kernel
theorem dX11_setExtrapolation_0 : decode cX11_setExtrapolation 0 = .ok (.aload_n 0, 1) := by decide +kernel
theorem dX11_setExtrapolation_1 : decode cX11_setExtrapolation 1 = .ok (.getfield 10, 3) := by decide +kernel
theorem dX11_setExtrapolation_4 : decode cX11_setExtrapolation 4 = .ok (.iload_n 1, 1) := by decide +kernel
theorem dX11_setExtrapolation_5 : decode cX11_setExtrapolation 5 = .ok (.invokevirtual 69, 3) := by decide +kernel
theorem dX11_setExtrapolation_8 : decode cX11_setExtrapolation 8 = .ok (.astore 4, 2) := by decide +kernel
theorem dX11_setExtrapolation_10 : decode cX11_setExtrapolation 10 = .ok (.aload 4, 2) := by decide +kernel
theorem dX11_setExtrapolation_12 : decode cX11_setExtrapolation 12 = .ok (.ifnonnull 6, 3) := by decide +kernel
theorem dX11_setExtrapolation_15 : decode cX11_setExtrapolation 15 = .ok (.ldc 73, 2) := by decide +kernel
theorem dX11_setExtrapolation_17 : decode cX11_setExtrapolation 17 = .ok (.ireturn, 1) := by decide +kernel
theorem dX11_setExtrapolation_18 : decode cX11_setExtrapolation 18 = .ok (.iload_n 2, 1) := by decide +kernel
theorem dX11_setExtrapolation_19 : decode cX11_setExtrapolation 19 = .ok (.iconst 0, 1) := by decide +kernel
theorem dX11_setExtrapolation_20 : decode cX11_setExtrapolation 20 = .ok (.iconst 4, 1) := by decide +kernel
theorem dX11_setExtrapolation_21 : decode cX11_setExtrapolation 21 = .ok (.invokestatic 74, 3) := by decide +kernel
theorem dX11_setExtrapolation_24 : decode cX11_setExtrapolation 24 = .ok (.ifCond .eq 12, 3) := by decide +kernel
theorem dX11_setExtrapolation_27 : decode cX11_setExtrapolation 27 = .ok (.iload_n 3, 1) := by decide +kernel
theorem dX11_setExtrapolation_28 : decode cX11_setExtrapolation 28 = .ok (.iconst 0, 1) := by decide +kernel
theorem dX11_setExtrapolation_29 : decode cX11_setExtrapolation 29 = .ok (.iconst 4, 1) := by decide +kernel
theorem dX11_setExtrapolation_30 : decode cX11_setExtrapolation 30 = .ok (.invokestatic 74, 3) := by decide +kernel
theorem dX11_setExtrapolation_33 : decode cX11_setExtrapolation 33 = .ok (.ifCond .ne 6, 3) := by decide +kernel
theorem dX11_setExtrapolation_36 : decode cX11_setExtrapolation 36 = .ok (.ldc 78, 2) := by decide +kernel
theorem dX11_setExtrapolation_38 : decode cX11_setExtrapolation 38 = .ok (.ireturn, 1) := by decide +kernel
theorem dX11_setExtrapolation_39 : decode cX11_setExtrapolation 39 = .ok (.aload 4, 2) := by decide +kernel
theorem dX11_setExtrapolation_41 : decode cX11_setExtrapolation 41 = .ok (.invokevirtual 143, 3) := by decide +kernel
theorem dX11_setExtrapolation_44 : decode cX11_setExtrapolation 44 = .ok (.istore 5, 2) := by decide +kernel
theorem dX11_setExtrapolation_46 : decode cX11_setExtrapolation 46 = .ok (.aload_n 0, 1) := by decide +kernel
theorem dX11_setExtrapolation_47 : decode cX11_setExtrapolation 47 = .ok (.getfield 19, 3) := by decide +kernel
theorem dX11_setExtrapolation_50 : decode cX11_setExtrapolation 50 = .ok (.aload_n 0, 1) := by decide +kernel
theorem dX11_setExtrapolation_51 : decode cX11_setExtrapolation 51 = .ok (.getfield 10, 3) := by decide +kernel
theorem dX11_setExtrapolation_54 : decode cX11_setExtrapolation 54 = .ok (.invokevirtual 90, 3) := by decide +kernel
theorem dX11_setExtrapolation_57 : decode cX11_setExtrapolation 57 = .ok (.aload 4, 2) := by decide +kernel
theorem dX11_setExtrapolation_59 : decode cX11_setExtrapolation 59 = .ok (.iload_n 2, 1) := by decide +kernel
theorem dX11_setExtrapolation_60 : decode cX11_setExtrapolation 60 = .ok (.putfield 137, 3) := by decide +kernel
theorem dX11_setExtrapolation_63 : decode cX11_setExtrapolation 63 = .ok (.aload 4, 2) := by decide +kernel
theorem dX11_setExtrapolation_65 : decode cX11_setExtrapolation 65 = .ok (.iload_n 3, 1) := by decide +kernel
theorem dX11_setExtrapolation_66 : decode cX11_setExtrapolation 66 = .ok (.putfield 140, 3) := by decide +kernel
theorem dX11_setExtrapolation_69 : decode cX11_setExtrapolation 69 = .ok (.iload 5, 2) := by decide +kernel
theorem dX11_setExtrapolation_71 : decode cX11_setExtrapolation 71 = .ok (.ireturn, 1) := by decide +kernel
theorem dX11_keys_0 : decode cX11_keys 0 = .ok (.aload_n 0, 1) := by decide +kernel
theorem dX11_keys_1 : decode cX11_keys 1 = .ok (.getfield 10, 3) := by decide +kernel
theorem dX11_keys_4 : decode cX11_keys 4 = .ok (.iload_n 1, 1) := by decide +kernel
theorem dX11_keys_5 : decode cX11_keys 5 = .ok (.invokevirtual 69, 3) := by decide +kernel
theorem dX11_keys_8 : decode cX11_keys 8 = .ok (.astore_n 2, 1) := by decide +kernel
theorem dX11_keys_9 : decode cX11_keys 9 = .ok (.aload_n 2, 1) := by decide +kernel
theorem dX11_keys_10 : decode cX11_keys 10 = .ok (.ifnonnull 8, 3) := by decide +kernel
theorem dX11_keys_13 : decode cX11_keys 13 = .ok (.ldc 73, 2) := by decide +kernel
theorem dX11_keys_15 : decode cX11_keys 15 = .ok (.goto 7, 3) := by decide +kernel
theorem dX11_keys_18 : decode cX11_keys 18 = .ok (.aload_n 2, 1) := by decide +kernel
theorem dX11_keys_19 : decode cX11_keys 19 = .ok (.getfield 85, 3) := by decide +kernel
theorem dX11_keys_22 : decode cX11_keys 22 = .ok (.ireturn, 1) := by decide +kernel
theorem dX11_frameOf_0 : decode cX11_frameOf 0 = .ok (.aload_n 0, 1) := by decide +kernel
theorem dX11_frameOf_1 : decode cX11_frameOf 1 = .ok (.getfield 10, 3) := by decide +kernel
theorem dX11_frameOf_4 : decode cX11_frameOf 4 = .ok (.iload_n 1, 1) := by decide +kernel
theorem dX11_frameOf_5 : decode cX11_frameOf 5 = .ok (.invokevirtual 69, 3) := by decide +kernel
theorem dX11_frameOf_8 : decode cX11_frameOf 8 = .ok (.astore_n 3, 1) := by decide +kernel
theorem dX11_frameOf_9 : decode cX11_frameOf 9 = .ok (.aload_n 3, 1) := by decide +kernel
theorem dX11_frameOf_10 : decode cX11_frameOf 10 = .ok (.ifnull 11, 3) := by decide +kernel
theorem dX11_frameOf_13 : decode cX11_frameOf 13 = .ok (.aload_n 3, 1) := by decide +kernel
theorem dX11_frameOf_14 : decode cX11_frameOf 14 = .ok (.iload_n 2, 1) := by decide +kernel
theorem dX11_frameOf_15 : decode cX11_frameOf 15 = .ok (.invokevirtual 147, 3) := by decide +kernel
theorem dX11_frameOf_18 : decode cX11_frameOf 18 = .ok (.ifCond .ne 8, 3) := by decide +kernel
theorem dX11_frameOf_21 : decode cX11_frameOf 21 = .ok (.ldc 73, 2) := by decide +kernel
theorem dX11_frameOf_23 : decode cX11_frameOf 23 = .ok (.goto 11, 3) := by decide +kernel
theorem dX11_frameOf_26 : decode cX11_frameOf 26 = .ok (.aload_n 3, 1) := by decide +kernel
theorem dX11_frameOf_27 : decode cX11_frameOf 27 = .ok (.getfield 151, 3) := by decide +kernel
theorem dX11_frameOf_30 : decode cX11_frameOf 30 = .ok (.iload_n 2, 1) := by decide +kernel
theorem dX11_frameOf_31 : decode cX11_frameOf 31 = .ok (.invokestatic 117, 3) := by decide +kernel
theorem dX11_frameOf_34 : decode cX11_frameOf 34 = .ok (.ireturn, 1) := by decide +kernel
theorem dX11_valueOf_0 : decode cX11_valueOf 0 = .ok (.aload_n 0, 1) := by decide +kernel
theorem dX11_valueOf_1 : decode cX11_valueOf 1 = .ok (.getfield 10, 3) := by decide +kernel
theorem dX11_valueOf_4 : decode cX11_valueOf 4 = .ok (.iload_n 1, 1) := by decide +kernel
theorem dX11_valueOf_5 : decode cX11_valueOf 5 = .ok (.invokevirtual 69, 3) := by decide +kernel
theorem dX11_valueOf_8 : decode cX11_valueOf 8 = .ok (.astore_n 3, 1) := by decide +kernel
theorem dX11_valueOf_9 : decode cX11_valueOf 9 = .ok (.aload_n 3, 1) := by decide +kernel
theorem dX11_valueOf_10 : decode cX11_valueOf 10 = .ok (.ifnull 11, 3) := by decide +kernel
theorem dX11_valueOf_13 : decode cX11_valueOf 13 = .ok (.aload_n 3, 1) := by decide +kernel
theorem dX11_valueOf_14 : decode cX11_valueOf 14 = .ok (.iload_n 2, 1) := by decide +kernel
theorem dX11_valueOf_15 : decode cX11_valueOf 15 = .ok (.invokevirtual 147, 3) := by decide +kernel
theorem dX11_valueOf_18 : decode cX11_valueOf 18 = .ok (.ifCond .ne 8, 3) := by decide +kernel
theorem dX11_valueOf_21 : decode cX11_valueOf 21 = .ok (.ldc 73, 2) := by decide +kernel
theorem dX11_valueOf_23 : decode cX11_valueOf 23 = .ok (.goto 11, 3) := by decide +kernel
theorem dX11_valueOf_26 : decode cX11_valueOf 26 = .ok (.aload_n 3, 1) := by decide +kernel
theorem dX11_valueOf_27 : decode cX11_valueOf 27 = .ok (.getfield 98, 3) := by decide +kernel
theorem dX11_valueOf_30 : decode cX11_valueOf 30 = .ok (.iload_n 2, 1) := by decide +kernel
theorem dX11_valueOf_31 : decode cX11_valueOf 31 = .ok (.invokestatic 117, 3) := by decide +kernel
theorem dX11_valueOf_34 : decode cX11_valueOf 34 = .ok (.ireturn, 1) := by decide +kernel
theorem dX11_modeOf_0 : decode cX11_modeOf 0 = .ok (.aload_n 0, 1) := by decide +kernel
theorem dX11_modeOf_1 : decode cX11_modeOf 1 = .ok (.getfield 10, 3) := by decide +kernel
theorem dX11_modeOf_4 : decode cX11_modeOf 4 = .ok (.iload_n 1, 1) := by decide +kernel
theorem dX11_modeOf_5 : decode cX11_modeOf 5 = .ok (.invokevirtual 69, 3) := by decide +kernel
theorem dX11_modeOf_8 : decode cX11_modeOf 8 = .ok (.astore_n 3, 1) := by decide +kernel
theorem dX11_modeOf_9 : decode cX11_modeOf 9 = .ok (.aload_n 3, 1) := by decide +kernel
theorem dX11_modeOf_10 : decode cX11_modeOf 10 = .ok (.ifnull 11, 3) := by decide +kernel
theorem dX11_modeOf_13 : decode cX11_modeOf 13 = .ok (.aload_n 3, 1) := by decide +kernel
theorem dX11_modeOf_14 : decode cX11_modeOf 14 = .ok (.iload_n 2, 1) := by decide +kernel
theorem dX11_modeOf_15 : decode cX11_modeOf 15 = .ok (.invokevirtual 147, 3) := by decide +kernel
theorem dX11_modeOf_18 : decode cX11_modeOf 18 = .ok (.ifCond .ne 8, 3) := by decide +kernel
theorem dX11_modeOf_21 : decode cX11_modeOf 21 = .ok (.ldc 73, 2) := by decide +kernel
theorem dX11_modeOf_23 : decode cX11_modeOf 23 = .ok (.goto 11, 3) := by decide +kernel
theorem dX11_modeOf_26 : decode cX11_modeOf 26 = .ok (.aload_n 3, 1) := by decide +kernel
theorem dX11_modeOf_27 : decode cX11_modeOf 27 = .ok (.getfield 114, 3) := by decide +kernel
theorem dX11_modeOf_30 : decode cX11_modeOf 30 = .ok (.iload_n 2, 1) := by decide +kernel
theorem dX11_modeOf_31 : decode cX11_modeOf 31 = .ok (.invokestatic 117, 3) := by decide +kernel
theorem dX11_modeOf_34 : decode cX11_modeOf 34 = .ok (.ireturn, 1) := by decide +kernel
theorem dX11_slope_0 : decode cX11_slope 0 = .ok (.aload_n 0, 1) := by decide +kernel
theorem dX11_slope_1 : decode cX11_slope 1 = .ok (.getfield 10, 3) := by decide +kernel
theorem dX11_slope_4 : decode cX11_slope 4 = .ok (.iload_n 1, 1) := by decide +kernel
theorem dX11_slope_5 : decode cX11_slope 5 = .ok (.invokevirtual 69, 3) := by decide +kernel
theorem dX11_slope_8 : decode cX11_slope 8 = .ok (.astore 4, 2) := by decide +kernel
theorem dX11_slope_10 : decode cX11_slope 10 = .ok (.aload 4, 2) := by decide +kernel
theorem dX11_slope_12 : decode cX11_slope 12 = .ok (.ifnull 12, 3) := by decide +kernel
theorem dX11_slope_15 : decode cX11_slope 15 = .ok (.aload 4, 2) := by decide +kernel
theorem dX11_slope_17 : decode cX11_slope 17 = .ok (.iload_n 2, 1) := by decide +kernel
theorem dX11_slope_18 : decode cX11_slope 18 = .ok (.invokevirtual 147, 3) := by decide +kernel
theorem dX11_slope_21 : decode cX11_slope 21 = .ok (.ifCond .ne 8, 3) := by decide +kernel
theorem dX11_slope_24 : decode cX11_slope 24 = .ok (.ldc 73, 2) := by decide +kernel
theorem dX11_slope_26 : decode cX11_slope 26 = .ok (.goto 10, 3) := by decide +kernel
theorem dX11_slope_29 : decode cX11_slope 29 = .ok (.aload 4, 2) := by decide +kernel
theorem dX11_slope_31 : decode cX11_slope 31 = .ok (.iload_n 2, 1) := by decide +kernel
theorem dX11_slope_32 : decode cX11_slope 32 = .ok (.iload_n 3, 1) := by decide +kernel
theorem dX11_slope_33 : decode cX11_slope 33 = .ok (.invokevirtual 154, 3) := by decide +kernel
theorem dX11_slope_36 : decode cX11_slope 36 = .ok (.ireturn, 1) := by decide +kernel
theorem dX11_value_0 : decode cX11_value 0 = .ok (.aload_n 0, 1) := by decide +kernel
theorem dX11_value_1 : decode cX11_value 1 = .ok (.getfield 10, 3) := by decide +kernel
theorem dX11_value_4 : decode cX11_value 4 = .ok (.iload_n 1, 1) := by decide +kernel
theorem dX11_value_5 : decode cX11_value 5 = .ok (.invokevirtual 69, 3) := by decide +kernel
theorem dX11_value_8 : decode cX11_value 8 = .ok (.astore_n 3, 1) := by decide +kernel
theorem dX11_value_9 : decode cX11_value 9 = .ok (.aload_n 3, 1) := by decide +kernel
theorem dX11_value_10 : decode cX11_value 10 = .ok (.ifnonnull 6, 3) := by decide +kernel
theorem dX11_value_13 : decode cX11_value 13 = .ok (.ldc 73, 2) := by decide +kernel
theorem dX11_value_15 : decode cX11_value 15 = .ok (.ireturn, 1) := by decide +kernel
theorem dX11_value_16 : decode cX11_value 16 = .ok (.iload_n 2, 1) := by decide +kernel
theorem dX11_value_17 : decode cX11_value 17 = .ok (.iconst 0, 1) := by decide +kernel
theorem dX11_value_18 : decode cX11_value 18 = .ok (.sipush 960, 3) := by decide +kernel
theorem dX11_value_21 : decode cX11_value 21 = .ok (.invokestatic 74, 3) := by decide +kernel
theorem dX11_value_24 : decode cX11_value 24 = .ok (.ifCond .ne 6, 3) := by decide +kernel
theorem dX11_value_27 : decode cX11_value 27 = .ok (.ldc 78, 2) := by decide +kernel
theorem dX11_value_29 : decode cX11_value 29 = .ok (.ireturn, 1) := by decide +kernel
theorem dX11_value_30 : decode cX11_value 30 = .ok (.aload_n 3, 1) := by decide +kernel
theorem dX11_value_31 : decode cX11_value 31 = .ok (.getfield 85, 3) := by decide +kernel
theorem dX11_value_34 : decode cX11_value 34 = .ok (.ifCond .ne 8, 3) := by decide +kernel
theorem dX11_value_37 : decode cX11_value 37 = .ok (.ldc 158, 2) := by decide +kernel
theorem dX11_value_39 : decode cX11_value 39 = .ok (.goto 8, 3) := by decide +kernel
theorem dX11_value_42 : decode cX11_value 42 = .ok (.aload_n 3, 1) := by decide +kernel
theorem dX11_value_43 : decode cX11_value 43 = .ok (.iload_n 2, 1) := by decide +kernel
theorem dX11_value_44 : decode cX11_value 44 = .ok (.invokevirtual 159, 3) := by decide +kernel
theorem dX11_value_47 : decode cX11_value 47 = .ok (.ireturn, 1) := by decide +kernel
theorem dX11_units_0 : decode cX11_units 0 = .ok (.aload_n 0, 1) := by decide +kernel
theorem dX11_units_1 : decode cX11_units 1 = .ok (.getfield 10, 3) := by decide +kernel
theorem dX11_units_4 : decode cX11_units 4 = .ok (.iload_n 1, 1) := by decide +kernel
theorem dX11_units_5 : decode cX11_units 5 = .ok (.invokevirtual 69, 3) := by decide +kernel
theorem dX11_units_8 : decode cX11_units 8 = .ok (.astore_n 3, 1) := by decide +kernel
theorem dX11_units_9 : decode cX11_units 9 = .ok (.aload_n 3, 1) := by decide +kernel
theorem dX11_units_10 : decode cX11_units 10 = .ok (.ifnull 21, 3) := by decide +kernel
theorem dX11_units_13 : decode cX11_units 13 = .ok (.iload_n 2, 1) := by decide +kernel
theorem dX11_units_14 : decode cX11_units 14 = .ok (.iconst 0, 1) := by decide +kernel
theorem dX11_units_15 : decode cX11_units 15 = .ok (.sipush 960, 3) := by decide +kernel
theorem dX11_units_18 : decode cX11_units 18 = .ok (.invokestatic 74, 3) := by decide +kernel
theorem dX11_units_21 : decode cX11_units 21 = .ok (.ifCond .eq 10, 3) := by decide +kernel
theorem dX11_units_24 : decode cX11_units 24 = .ok (.aload_n 3, 1) := by decide +kernel
theorem dX11_units_25 : decode cX11_units 25 = .ok (.getfield 85, 3) := by decide +kernel
theorem dX11_units_28 : decode cX11_units 28 = .ok (.ifCond .ne 5, 3) := by decide +kernel
theorem dX11_units_31 : decode cX11_units 31 = .ok (.fconst 0, 1) := by decide +kernel
theorem dX11_units_32 : decode cX11_units 32 = .ok (.freturn, 1) := by decide +kernel
theorem dX11_units_33 : decode cX11_units 33 = .ok (.aload_n 3, 1) := by decide +kernel
theorem dX11_units_34 : decode cX11_units 34 = .ok (.iload_n 2, 1) := by decide +kernel
theorem dX11_units_35 : decode cX11_units 35 = .ok (.invokevirtual 159, 3) := by decide +kernel
theorem dX11_units_38 : decode cX11_units 38 = .ok (.i2f, 1) := by decide +kernel
theorem dX11_units_39 : decode cX11_units 39 = .ok (.ldc 162, 2) := by decide +kernel
theorem dX11_units_41 : decode cX11_units 41 = .ok (.fdiv, 1) := by decide +kernel
theorem dX11_units_42 : decode cX11_units 42 = .ok (.freturn, 1) := by decide +kernel
theorem dX11_mean_0 : decode cX11_mean 0 = .ok (.aload_n 0, 1) := by decide +kernel
theorem dX11_mean_1 : decode cX11_mean 1 = .ok (.getfield 10, 3) := by decide +kernel
theorem dX11_mean_4 : decode cX11_mean 4 = .ok (.iload_n 1, 1) := by decide +kernel
theorem dX11_mean_5 : decode cX11_mean 5 = .ok (.invokevirtual 69, 3) := by decide +kernel
theorem dX11_mean_8 : decode cX11_mean 8 = .ok (.astore 4, 2) := by decide +kernel
theorem dX11_mean_10 : decode cX11_mean 10 = .ok (.aload 4, 2) := by decide +kernel
theorem dX11_mean_12 : decode cX11_mean 12 = .ok (.ifnull 22, 3) := by decide +kernel
theorem dX11_mean_15 : decode cX11_mean 15 = .ok (.iload_n 2, 1) := by decide +kernel
theorem dX11_mean_16 : decode cX11_mean 16 = .ok (.iload_n 3, 1) := by decide +kernel
theorem dX11_mean_17 : decode cX11_mean 17 = .ok (.sipush 960, 3) := by decide +kernel
theorem dX11_mean_20 : decode cX11_mean 20 = .ok (.invokestatic 163, 3) := by decide +kernel
theorem dX11_mean_23 : decode cX11_mean 23 = .ok (.ifCond .eq 11, 3) := by decide +kernel
theorem dX11_mean_26 : decode cX11_mean 26 = .ok (.aload 4, 2) := by decide +kernel
theorem dX11_mean_28 : decode cX11_mean 28 = .ok (.getfield 85, 3) := by decide +kernel
theorem dX11_mean_31 : decode cX11_mean 31 = .ok (.ifCond .ne 5, 3) := by decide +kernel
theorem dX11_mean_34 : decode cX11_mean 34 = .ok (.dconst 0, 1) := by decide +kernel
theorem dX11_mean_35 : decode cX11_mean 35 = .ok (.dreturn, 1) := by decide +kernel
theorem dX11_mean_36 : decode cX11_mean 36 = .ok (.lconst 0, 1) := by decide +kernel
theorem dX11_mean_37 : decode cX11_mean 37 = .ok (.lstore 5, 2) := by decide +kernel
theorem dX11_mean_39 : decode cX11_mean 39 = .ok (.iload_n 2, 1) := by decide +kernel
theorem dX11_mean_40 : decode cX11_mean 40 = .ok (.istore 7, 2) := by decide +kernel
theorem dX11_mean_42 : decode cX11_mean 42 = .ok (.iload 7, 2) := by decide +kernel
theorem dX11_mean_44 : decode cX11_mean 44 = .ok (.iload_n 3, 1) := by decide +kernel
theorem dX11_mean_45 : decode cX11_mean 45 = .ok (.if_icmp .gt 22, 3) := by decide +kernel
theorem dX11_mean_48 : decode cX11_mean 48 = .ok (.lload 5, 2) := by decide +kernel
theorem dX11_mean_50 : decode cX11_mean 50 = .ok (.aload 4, 2) := by decide +kernel
theorem dX11_mean_52 : decode cX11_mean 52 = .ok (.iload 7, 2) := by decide +kernel
theorem dX11_mean_54 : decode cX11_mean 54 = .ok (.invokevirtual 159, 3) := by decide +kernel
theorem dX11_mean_57 : decode cX11_mean 57 = .ok (.i2l, 1) := by decide +kernel
theorem dX11_mean_58 : decode cX11_mean 58 = .ok (.ladd, 1) := by decide +kernel
theorem dX11_mean_59 : decode cX11_mean 59 = .ok (.lstore 5, 2) := by decide +kernel
theorem dX11_mean_61 : decode cX11_mean 61 = .ok (.iinc 7 1, 3) := by decide +kernel
theorem dX11_mean_64 : decode cX11_mean 64 = .ok (.goto (-22), 3) := by decide +kernel
theorem dX11_mean_67 : decode cX11_mean 67 = .ok (.lload 5, 2) := by decide +kernel
theorem dX11_mean_69 : decode cX11_mean 69 = .ok (.l2d, 1) := by decide +kernel
theorem dX11_mean_70 : decode cX11_mean 70 = .ok (.ldc2_w 166, 3) := by decide +kernel
theorem dX11_mean_73 : decode cX11_mean 73 = .ok (.iload_n 3, 1) := by decide +kernel
theorem dX11_mean_74 : decode cX11_mean 74 = .ok (.iload_n 2, 1) := by decide +kernel
theorem dX11_mean_75 : decode cX11_mean 75 = .ok (.isub, 1) := by decide +kernel
theorem dX11_mean_76 : decode cX11_mean 76 = .ok (.iconst 1, 1) := by decide +kernel
theorem dX11_mean_77 : decode cX11_mean 77 = .ok (.iadd, 1) := by decide +kernel
theorem dX11_mean_78 : decode cX11_mean 78 = .ok (.i2d, 1) := by decide +kernel
theorem dX11_mean_79 : decode cX11_mean 79 = .ok (.dmul, 1) := by decide +kernel
theorem dX11_mean_80 : decode cX11_mean 80 = .ok (.ddiv, 1) := by decide +kernel
theorem dX11_mean_81 : decode cX11_mean 81 = .ok (.dreturn, 1) := by decide +kernel
theorem dX11_extreme_0 : decode cX11_extreme 0 = .ok (.aload_n 0, 1) := by decide +kernel
theorem dX11_extreme_1 : decode cX11_extreme 1 = .ok (.getfield 10, 3) := by decide +kernel
theorem dX11_extreme_4 : decode cX11_extreme 4 = .ok (.iload_n 1, 1) := by decide +kernel
theorem dX11_extreme_5 : decode cX11_extreme 5 = .ok (.invokevirtual 69, 3) := by decide +kernel
theorem dX11_extreme_8 : decode cX11_extreme 8 = .ok (.astore 5, 2) := by decide +kernel
theorem dX11_extreme_10 : decode cX11_extreme 10 = .ok (.aload 5, 2) := by decide +kernel
theorem dX11_extreme_12 : decode cX11_extreme 12 = .ok (.ifnonnull 6, 3) := by decide +kernel
theorem dX11_extreme_15 : decode cX11_extreme 15 = .ok (.ldc 73, 2) := by decide +kernel
theorem dX11_extreme_17 : decode cX11_extreme 17 = .ok (.ireturn, 1) := by decide +kernel
theorem dX11_extreme_18 : decode cX11_extreme 18 = .ok (.iload_n 2, 1) := by decide +kernel
theorem dX11_extreme_19 : decode cX11_extreme 19 = .ok (.iload_n 3, 1) := by decide +kernel
theorem dX11_extreme_20 : decode cX11_extreme 20 = .ok (.sipush 960, 3) := by decide +kernel
theorem dX11_extreme_23 : decode cX11_extreme 23 = .ok (.invokestatic 163, 3) := by decide +kernel
theorem dX11_extreme_26 : decode cX11_extreme 26 = .ok (.ifCond .ne 6, 3) := by decide +kernel
theorem dX11_extreme_29 : decode cX11_extreme 29 = .ok (.ldc 78, 2) := by decide +kernel
theorem dX11_extreme_31 : decode cX11_extreme 31 = .ok (.ireturn, 1) := by decide +kernel
theorem dX11_extreme_32 : decode cX11_extreme 32 = .ok (.aload 5, 2) := by decide +kernel
theorem dX11_extreme_34 : decode cX11_extreme 34 = .ok (.getfield 85, 3) := by decide +kernel
theorem dX11_extreme_37 : decode cX11_extreme 37 = .ok (.ifCond .ne 6, 3) := by decide +kernel
theorem dX11_extreme_40 : decode cX11_extreme 40 = .ok (.ldc 158, 2) := by decide +kernel
theorem dX11_extreme_42 : decode cX11_extreme 42 = .ok (.ireturn, 1) := by decide +kernel
theorem dX11_extreme_43 : decode cX11_extreme 43 = .ok (.iload_n 2, 1) := by decide +kernel
theorem dX11_extreme_44 : decode cX11_extreme 44 = .ok (.istore 6, 2) := by decide +kernel
theorem dX11_extreme_46 : decode cX11_extreme 46 = .ok (.aload 5, 2) := by decide +kernel
theorem dX11_extreme_48 : decode cX11_extreme 48 = .ok (.iload_n 2, 1) := by decide +kernel
theorem dX11_extreme_49 : decode cX11_extreme 49 = .ok (.invokevirtual 159, 3) := by decide +kernel
theorem dX11_extreme_52 : decode cX11_extreme 52 = .ok (.istore 7, 2) := by decide +kernel
theorem dX11_extreme_54 : decode cX11_extreme 54 = .ok (.iload_n 2, 1) := by decide +kernel
theorem dX11_extreme_55 : decode cX11_extreme 55 = .ok (.iconst 1, 1) := by decide +kernel
theorem dX11_extreme_56 : decode cX11_extreme 56 = .ok (.iadd, 1) := by decide +kernel
theorem dX11_extreme_57 : decode cX11_extreme 57 = .ok (.istore 8, 2) := by decide +kernel
theorem dX11_extreme_59 : decode cX11_extreme 59 = .ok (.iload 8, 2) := by decide +kernel
theorem dX11_extreme_61 : decode cX11_extreme 61 = .ok (.iload_n 3, 1) := by decide +kernel
theorem dX11_extreme_62 : decode cX11_extreme 62 = .ok (.if_icmp .gt 48, 3) := by decide +kernel
theorem dX11_extreme_65 : decode cX11_extreme 65 = .ok (.aload 5, 2) := by decide +kernel
theorem dX11_extreme_67 : decode cX11_extreme 67 = .ok (.iload 8, 2) := by decide +kernel
theorem dX11_extreme_69 : decode cX11_extreme 69 = .ok (.invokevirtual 159, 3) := by decide +kernel
theorem dX11_extreme_72 : decode cX11_extreme 72 = .ok (.istore 9, 2) := by decide +kernel
theorem dX11_extreme_74 : decode cX11_extreme 74 = .ok (.iload 4, 2) := by decide +kernel
theorem dX11_extreme_76 : decode cX11_extreme 76 = .ok (.ifCond .eq 13, 3) := by decide +kernel
theorem dX11_extreme_79 : decode cX11_extreme 79 = .ok (.iload 9, 2) := by decide +kernel
theorem dX11_extreme_81 : decode cX11_extreme 81 = .ok (.iload 7, 2) := by decide +kernel
theorem dX11_extreme_83 : decode cX11_extreme 83 = .ok (.if_icmp .le 21, 3) := by decide +kernel
theorem dX11_extreme_86 : decode cX11_extreme 86 = .ok (.goto 10, 3) := by decide +kernel
theorem dX11_extreme_89 : decode cX11_extreme 89 = .ok (.iload 9, 2) := by decide +kernel
theorem dX11_extreme_91 : decode cX11_extreme 91 = .ok (.iload 7, 2) := by decide +kernel
theorem dX11_extreme_93 : decode cX11_extreme 93 = .ok (.if_icmp .ge 11, 3) := by decide +kernel
theorem dX11_extreme_96 : decode cX11_extreme 96 = .ok (.iload 8, 2) := by decide +kernel
theorem dX11_extreme_98 : decode cX11_extreme 98 = .ok (.istore 6, 2) := by decide +kernel
theorem dX11_extreme_100 : decode cX11_extreme 100 = .ok (.iload 9, 2) := by decide +kernel
theorem dX11_extreme_102 : decode cX11_extreme 102 = .ok (.istore 7, 2) := by decide +kernel
theorem dX11_extreme_104 : decode cX11_extreme 104 = .ok (.iinc 8 1, 3) := by decide +kernel
theorem dX11_extreme_107 : decode cX11_extreme 107 = .ok (.goto (-48), 3) := by decide +kernel
theorem dX11_extreme_110 : decode cX11_extreme 110 = .ok (.iload 6, 2) := by decide +kernel
theorem dX11_extreme_112 : decode cX11_extreme 112 = .ok (.ireturn, 1) := by decide +kernel
theorem dX11_crossings_0 : decode cX11_crossings 0 = .ok (.aload_n 0, 1) := by decide +kernel
theorem dX11_crossings_1 : decode cX11_crossings 1 = .ok (.getfield 10, 3) := by decide +kernel
theorem dX11_crossings_4 : decode cX11_crossings 4 = .ok (.iload_n 1, 1) := by decide +kernel
theorem dX11_crossings_5 : decode cX11_crossings 5 = .ok (.invokevirtual 69, 3) := by decide +kernel
theorem dX11_crossings_8 : decode cX11_crossings 8 = .ok (.astore 5, 2) := by decide +kernel
theorem dX11_crossings_10 : decode cX11_crossings 10 = .ok (.aload 5, 2) := by decide +kernel
theorem dX11_crossings_12 : decode cX11_crossings 12 = .ok (.ifnonnull 6, 3) := by decide +kernel
theorem dX11_crossings_15 : decode cX11_crossings 15 = .ok (.ldc 73, 2) := by decide +kernel
theorem dX11_crossings_17 : decode cX11_crossings 17 = .ok (.ireturn, 1) := by decide +kernel
theorem dX11_crossings_18 : decode cX11_crossings 18 = .ok (.iload_n 2, 1) := by decide +kernel
theorem dX11_crossings_19 : decode cX11_crossings 19 = .ok (.iload_n 3, 1) := by decide +kernel
theorem dX11_crossings_20 : decode cX11_crossings 20 = .ok (.sipush 960, 3) := by decide +kernel
theorem dX11_crossings_23 : decode cX11_crossings 23 = .ok (.invokestatic 163, 3) := by decide +kernel
theorem dX11_crossings_26 : decode cX11_crossings 26 = .ok (.ifCond .eq 17, 3) := by decide +kernel
theorem dX11_crossings_29 : decode cX11_crossings 29 = .ok (.iload 4, 2) := by decide +kernel
theorem dX11_crossings_31 : decode cX11_crossings 31 = .ok (.sipush (-999), 3) := by decide +kernel
theorem dX11_crossings_34 : decode cX11_crossings 34 = .ok (.sipush 999, 3) := by decide +kernel
theorem dX11_crossings_37 : decode cX11_crossings 37 = .ok (.invokestatic 74, 3) := by decide +kernel
theorem dX11_crossings_40 : decode cX11_crossings 40 = .ok (.ifCond .ne 6, 3) := by decide +kernel
theorem dX11_crossings_43 : decode cX11_crossings 43 = .ok (.ldc 78, 2) := by decide +kernel
theorem dX11_crossings_45 : decode cX11_crossings 45 = .ok (.ireturn, 1) := by decide +kernel
theorem dX11_crossings_46 : decode cX11_crossings 46 = .ok (.aload 5, 2) := by decide +kernel
theorem dX11_crossings_48 : decode cX11_crossings 48 = .ok (.getfield 85, 3) := by decide +kernel
theorem dX11_crossings_51 : decode cX11_crossings 51 = .ok (.ifCond .ne 6, 3) := by decide +kernel
theorem dX11_crossings_54 : decode cX11_crossings 54 = .ok (.ldc 158, 2) := by decide +kernel
theorem dX11_crossings_56 : decode cX11_crossings 56 = .ok (.ireturn, 1) := by decide +kernel
theorem dX11_crossings_57 : decode cX11_crossings 57 = .ok (.iconst 0, 1) := by decide +kernel
theorem dX11_crossings_58 : decode cX11_crossings 58 = .ok (.istore 6, 2) := by decide +kernel
theorem dX11_crossings_60 : decode cX11_crossings 60 = .ok (.aload 5, 2) := by decide +kernel
theorem dX11_crossings_62 : decode cX11_crossings 62 = .ok (.iload_n 2, 1) := by decide +kernel
theorem dX11_crossings_63 : decode cX11_crossings 63 = .ok (.invokevirtual 159, 3) := by decide +kernel
theorem dX11_crossings_66 : decode cX11_crossings 66 = .ok (.bipush 64, 2) := by decide +kernel
theorem dX11_crossings_68 : decode cX11_crossings 68 = .ok (.iload 4, 2) := by decide +kernel
theorem dX11_crossings_70 : decode cX11_crossings 70 = .ok (.imul, 1) := by decide +kernel
theorem dX11_crossings_71 : decode cX11_crossings 71 = .ok (.if_icmp .ge 7, 3) := by decide +kernel
theorem dX11_crossings_74 : decode cX11_crossings 74 = .ok (.iconst 1, 1) := by decide +kernel
theorem dX11_crossings_75 : decode cX11_crossings 75 = .ok (.goto 4, 3) := by decide +kernel
theorem dX11_crossings_78 : decode cX11_crossings 78 = .ok (.iconst 0, 1) := by decide +kernel
theorem dX11_crossings_79 : decode cX11_crossings 79 = .ok (.istore 7, 2) := by decide +kernel
theorem dX11_crossings_81 : decode cX11_crossings 81 = .ok (.iload_n 2, 1) := by decide +kernel
theorem dX11_crossings_82 : decode cX11_crossings 82 = .ok (.iconst 1, 1) := by decide +kernel
theorem dX11_crossings_83 : decode cX11_crossings 83 = .ok (.iadd, 1) := by decide +kernel
theorem dX11_crossings_84 : decode cX11_crossings 84 = .ok (.istore 8, 2) := by decide +kernel
theorem dX11_crossings_86 : decode cX11_crossings 86 = .ok (.iload 8, 2) := by decide +kernel
theorem dX11_crossings_88 : decode cX11_crossings 88 = .ok (.iload_n 3, 1) := by decide +kernel
theorem dX11_crossings_89 : decode cX11_crossings 89 = .ok (.if_icmp .gt 45, 3) := by decide +kernel
theorem dX11_crossings_92 : decode cX11_crossings 92 = .ok (.aload 5, 2) := by decide +kernel
theorem dX11_crossings_94 : decode cX11_crossings 94 = .ok (.iload 8, 2) := by decide +kernel
theorem dX11_crossings_96 : decode cX11_crossings 96 = .ok (.invokevirtual 159, 3) := by decide +kernel
theorem dX11_crossings_99 : decode cX11_crossings 99 = .ok (.bipush 64, 2) := by decide +kernel
theorem dX11_crossings_101 : decode cX11_crossings 101 = .ok (.iload 4, 2) := by decide +kernel
theorem dX11_crossings_103 : decode cX11_crossings 103 = .ok (.imul, 1) := by decide +kernel
theorem dX11_crossings_104 : decode cX11_crossings 104 = .ok (.if_icmp .ge 7, 3) := by decide +kernel
theorem dX11_crossings_107 : decode cX11_crossings 107 = .ok (.iconst 1, 1) := by decide +kernel
theorem dX11_crossings_108 : decode cX11_crossings 108 = .ok (.goto 4, 3) := by decide +kernel
theorem dX11_crossings_111 : decode cX11_crossings 111 = .ok (.iconst 0, 1) := by decide +kernel
theorem dX11_crossings_112 : decode cX11_crossings 112 = .ok (.istore 9, 2) := by decide +kernel
theorem dX11_crossings_114 : decode cX11_crossings 114 = .ok (.iload 9, 2) := by decide +kernel
theorem dX11_crossings_116 : decode cX11_crossings 116 = .ok (.iload 7, 2) := by decide +kernel
theorem dX11_crossings_118 : decode cX11_crossings 118 = .ok (.if_icmp .eq 6, 3) := by decide +kernel
theorem dX11_crossings_121 : decode cX11_crossings 121 = .ok (.iinc 6 1, 3) := by decide +kernel
theorem dX11_crossings_124 : decode cX11_crossings 124 = .ok (.iload 9, 2) := by decide +kernel
theorem dX11_crossings_126 : decode cX11_crossings 126 = .ok (.istore 7, 2) := by decide +kernel
theorem dX11_crossings_128 : decode cX11_crossings 128 = .ok (.iinc 8 1, 3) := by decide +kernel
theorem dX11_crossings_131 : decode cX11_crossings 131 = .ok (.goto (-45), 3) := by decide +kernel
theorem dX11_crossings_134 : decode cX11_crossings 134 = .ok (.iload 6, 2) := by decide +kernel
theorem dX11_crossings_136 : decode cX11_crossings 136 = .ok (.ireturn, 1) := by decide +kernel
theorem dX11_addPoint_0 : decode cX11_addPoint 0 = .ok (.aload_n 0, 1) := by decide +kernel
theorem dX11_addPoint_1 : decode cX11_addPoint 1 = .ok (.getfield 10, 3) := by decide +kernel
theorem dX11_addPoint_4 : decode cX11_addPoint 4 = .ok (.getfield 168, 3) := by decide +kernel
theorem dX11_addPoint_7 : decode cX11_addPoint 7 = .ok (.astore_n 3, 1) := by decide +kernel
theorem dX11_addPoint_8 : decode cX11_addPoint 8 = .ok (.iload_n 1, 1) := by decide +kernel
theorem dX11_addPoint_9 : decode cX11_addPoint 9 = .ok (.iconst 0, 1) := by decide +kernel
theorem dX11_addPoint_10 : decode cX11_addPoint 10 = .ok (.sipush 480, 3) := by decide +kernel
theorem dX11_addPoint_13 : decode cX11_addPoint 13 = .ok (.invokestatic 74, 3) := by decide +kernel
theorem dX11_addPoint_16 : decode cX11_addPoint 16 = .ok (.ifCond .eq 23, 3) := by decide +kernel
theorem dX11_addPoint_19 : decode cX11_addPoint 19 = .ok (.iload_n 2, 1) := by decide +kernel
theorem dX11_addPoint_20 : decode cX11_addPoint 20 = .ok (.iconst 0, 1) := by decide +kernel
theorem dX11_addPoint_21 : decode cX11_addPoint 21 = .ok (.sipush 480, 3) := by decide +kernel
theorem dX11_addPoint_24 : decode cX11_addPoint 24 = .ok (.invokestatic 74, 3) := by decide +kernel
theorem dX11_addPoint_27 : decode cX11_addPoint 27 = .ok (.ifCond .eq 12, 3) := by decide +kernel
theorem dX11_addPoint_30 : decode cX11_addPoint 30 = .ok (.aload_n 3, 1) := by decide +kernel
theorem dX11_addPoint_31 : decode cX11_addPoint 31 = .ok (.iload_n 1, 1) := by decide +kernel
theorem dX11_addPoint_32 : decode cX11_addPoint 32 = .ok (.iload_n 2, 1) := by decide +kernel
theorem dX11_addPoint_33 : decode cX11_addPoint 33 = .ok (.invokevirtual 172, 3) := by decide +kernel
theorem dX11_addPoint_36 : decode cX11_addPoint 36 = .ok (.ifCond .ne 6, 3) := by decide +kernel
theorem dX11_addPoint_39 : decode cX11_addPoint 39 = .ok (.ldc 78, 2) := by decide +kernel
theorem dX11_addPoint_41 : decode cX11_addPoint 41 = .ok (.ireturn, 1) := by decide +kernel
theorem dX11_addPoint_42 : decode cX11_addPoint 42 = .ok (.aload_n 3, 1) := by decide +kernel
theorem dX11_addPoint_43 : decode cX11_addPoint 43 = .ok (.getfield 178, 3) := by decide +kernel
theorem dX11_addPoint_46 : decode cX11_addPoint 46 = .ok (.bipush 8, 2) := by decide +kernel
theorem dX11_addPoint_48 : decode cX11_addPoint 48 = .ok (.if_icmp .lt 6, 3) := by decide +kernel
theorem dX11_addPoint_51 : decode cX11_addPoint 51 = .ok (.ldc 89, 2) := by decide +kernel
theorem dX11_addPoint_53 : decode cX11_addPoint 53 = .ok (.ireturn, 1) := by decide +kernel
theorem dX11_addPoint_54 : decode cX11_addPoint 54 = .ok (.aload_n 0, 1) := by decide +kernel
theorem dX11_addPoint_55 : decode cX11_addPoint 55 = .ok (.getfield 19, 3) := by decide +kernel
theorem dX11_addPoint_58 : decode cX11_addPoint 58 = .ok (.aload_n 0, 1) := by decide +kernel
theorem dX11_addPoint_59 : decode cX11_addPoint 59 = .ok (.getfield 10, 3) := by decide +kernel
theorem dX11_addPoint_62 : decode cX11_addPoint 62 = .ok (.invokevirtual 90, 3) := by decide +kernel
theorem dX11_addPoint_65 : decode cX11_addPoint 65 = .ok (.aload_n 3, 1) := by decide +kernel
theorem dX11_addPoint_66 : decode cX11_addPoint 66 = .ok (.iload_n 1, 1) := by decide +kernel
theorem dX11_addPoint_67 : decode cX11_addPoint 67 = .ok (.iload_n 2, 1) := by decide +kernel
theorem dX11_addPoint_68 : decode cX11_addPoint 68 = .ok (.invokevirtual 179, 3) := by decide +kernel
theorem dX11_addPoint_71 : decode cX11_addPoint 71 = .ok (.aload_n 3, 1) := by decide +kernel
theorem dX11_addPoint_72 : decode cX11_addPoint 72 = .ok (.getfield 178, 3) := by decide +kernel
theorem dX11_addPoint_75 : decode cX11_addPoint 75 = .ok (.ireturn, 1) := by decide +kernel
theorem dX11_clearMap_0 : decode cX11_clearMap 0 = .ok (.aload_n 0, 1) := by decide +kernel
theorem dX11_clearMap_1 : decode cX11_clearMap 1 = .ok (.getfield 19, 3) := by decide +kernel
theorem dX11_clearMap_4 : decode cX11_clearMap 4 = .ok (.aload_n 0, 1) := by decide +kernel
theorem dX11_clearMap_5 : decode cX11_clearMap 5 = .ok (.getfield 10, 3) := by decide +kernel
theorem dX11_clearMap_8 : decode cX11_clearMap 8 = .ok (.invokevirtual 90, 3) := by decide +kernel
theorem dX11_clearMap_11 : decode cX11_clearMap 11 = .ok (.aload_n 0, 1) := by decide +kernel
theorem dX11_clearMap_12 : decode cX11_clearMap 12 = .ok (.getfield 10, 3) := by decide +kernel
theorem dX11_clearMap_15 : decode cX11_clearMap 15 = .ok (.getfield 168, 3) := by decide +kernel
theorem dX11_clearMap_18 : decode cX11_clearMap 18 = .ok (.getfield 178, 3) := by decide +kernel
theorem dX11_clearMap_21 : decode cX11_clearMap 21 = .ok (.istore_n 1, 1) := by decide +kernel
theorem dX11_clearMap_22 : decode cX11_clearMap 22 = .ok (.aload_n 0, 1) := by decide +kernel
theorem dX11_clearMap_23 : decode cX11_clearMap 23 = .ok (.getfield 10, 3) := by decide +kernel
theorem dX11_clearMap_26 : decode cX11_clearMap 26 = .ok (.getfield 168, 3) := by decide +kernel
theorem dX11_clearMap_29 : decode cX11_clearMap 29 = .ok (.iconst 0, 1) := by decide +kernel
theorem dX11_clearMap_30 : decode cX11_clearMap 30 = .ok (.putfield 178, 3) := by decide +kernel
theorem dX11_clearMap_33 : decode cX11_clearMap 33 = .ok (.iload_n 1, 1) := by decide +kernel
theorem dX11_clearMap_34 : decode cX11_clearMap 34 = .ok (.ireturn, 1) := by decide +kernel
theorem dX11_mapped_0 : decode cX11_mapped 0 = .ok (.iload_n 1, 1) := by decide +kernel
theorem dX11_mapped_1 : decode cX11_mapped 1 = .ok (.iconst 0, 1) := by decide +kernel
theorem dX11_mapped_2 : decode cX11_mapped 2 = .ok (.sipush 480, 3) := by decide +kernel
theorem dX11_mapped_5 : decode cX11_mapped 5 = .ok (.invokestatic 74, 3) := by decide +kernel
theorem dX11_mapped_8 : decode cX11_mapped 8 = .ok (.ifCond .eq 17, 3) := by decide +kernel
theorem dX11_mapped_11 : decode cX11_mapped 11 = .ok (.aload_n 0, 1) := by decide +kernel
theorem dX11_mapped_12 : decode cX11_mapped 12 = .ok (.getfield 10, 3) := by decide +kernel
theorem dX11_mapped_15 : decode cX11_mapped 15 = .ok (.getfield 168, 3) := by decide +kernel
theorem dX11_mapped_18 : decode cX11_mapped 18 = .ok (.iload_n 1, 1) := by decide +kernel
theorem dX11_mapped_19 : decode cX11_mapped 19 = .ok (.invokevirtual 182, 3) := by decide +kernel
theorem dX11_mapped_22 : decode cX11_mapped 22 = .ok (.goto 5, 3) := by decide +kernel
theorem dX11_mapped_25 : decode cX11_mapped 25 = .ok (.ldc 78, 2) := by decide +kernel
theorem dX11_mapped_27 : decode cX11_mapped 27 = .ok (.ireturn, 1) := by decide +kernel
theorem dX11_retime_0 : decode cX11_retime 0 = .ok (.aload_n 0, 1) := by decide +kernel
theorem dX11_retime_1 : decode cX11_retime 1 = .ok (.getfield 10, 3) := by decide +kernel
theorem dX11_retime_4 : decode cX11_retime 4 = .ok (.iload_n 1, 1) := by decide +kernel
theorem dX11_retime_5 : decode cX11_retime 5 = .ok (.invokevirtual 69, 3) := by decide +kernel
theorem dX11_retime_8 : decode cX11_retime 8 = .ok (.astore_n 2, 1) := by decide +kernel
theorem dX11_retime_9 : decode cX11_retime 9 = .ok (.aload_n 2, 1) := by decide +kernel
theorem dX11_retime_10 : decode cX11_retime 10 = .ok (.ifnonnull 6, 3) := by decide +kernel
theorem dX11_retime_13 : decode cX11_retime 13 = .ok (.ldc 73, 2) := by decide +kernel
theorem dX11_retime_15 : decode cX11_retime 15 = .ok (.ireturn, 1) := by decide +kernel
theorem dX11_retime_16 : decode cX11_retime 16 = .ok (.iconst 0, 1) := by decide +kernel
theorem dX11_retime_17 : decode cX11_retime 17 = .ok (.istore_n 3, 1) := by decide +kernel
theorem dX11_retime_18 : decode cX11_retime 18 = .ok (.iconst (-1), 1) := by decide +kernel
theorem dX11_retime_19 : decode cX11_retime 19 = .ok (.istore 4, 2) := by decide +kernel
theorem dX11_retime_21 : decode cX11_retime 21 = .ok (.iconst 0, 1) := by decide +kernel
theorem dX11_retime_22 : decode cX11_retime 22 = .ok (.istore 5, 2) := by decide +kernel
theorem dX11_retime_24 : decode cX11_retime 24 = .ok (.iload 5, 2) := by decide +kernel
theorem dX11_retime_26 : decode cX11_retime 26 = .ok (.aload_n 2, 1) := by decide +kernel
theorem dX11_retime_27 : decode cX11_retime 27 = .ok (.getfield 85, 3) := by decide +kernel
theorem dX11_retime_30 : decode cX11_retime 30 = .ok (.if_icmp .ge 86, 3) := by decide +kernel
theorem dX11_retime_33 : decode cX11_retime 33 = .ok (.aload_n 2, 1) := by decide +kernel
theorem dX11_retime_34 : decode cX11_retime 34 = .ok (.getfield 151, 3) := by decide +kernel
theorem dX11_retime_37 : decode cX11_retime 37 = .ok (.iload 5, 2) := by decide +kernel
theorem dX11_retime_39 : decode cX11_retime 39 = .ok (.invokestatic 117, 3) := by decide +kernel
theorem dX11_retime_42 : decode cX11_retime 42 = .ok (.istore 6, 2) := by decide +kernel
theorem dX11_retime_44 : decode cX11_retime 44 = .ok (.aload_n 0, 1) := by decide +kernel
theorem dX11_retime_45 : decode cX11_retime 45 = .ok (.getfield 10, 3) := by decide +kernel
theorem dX11_retime_48 : decode cX11_retime 48 = .ok (.getfield 168, 3) := by decide +kernel
theorem dX11_retime_51 : decode cX11_retime 51 = .ok (.iload 6, 2) := by decide +kernel
theorem dX11_retime_53 : decode cX11_retime 53 = .ok (.invokevirtual 182, 3) := by decide +kernel
theorem dX11_retime_56 : decode cX11_retime 56 = .ok (.istore 7, 2) := by decide +kernel
theorem dX11_retime_58 : decode cX11_retime 58 = .ok (.iload 7, 2) := by decide +kernel
theorem dX11_retime_60 : decode cX11_retime 60 = .ok (.iconst 0, 1) := by decide +kernel
theorem dX11_retime_61 : decode cX11_retime 61 = .ok (.sipush 480, 3) := by decide +kernel
theorem dX11_retime_64 : decode cX11_retime 64 = .ok (.invokestatic 74, 3) := by decide +kernel
theorem dX11_retime_67 : decode cX11_retime 67 = .ok (.ifCond .eq 10, 3) := by decide +kernel
theorem dX11_retime_70 : decode cX11_retime 70 = .ok (.iload 7, 2) := by decide +kernel
theorem dX11_retime_72 : decode cX11_retime 72 = .ok (.iload 4, 2) := by decide +kernel
theorem dX11_retime_74 : decode cX11_retime 74 = .ok (.if_icmp .gt 6, 3) := by decide +kernel
theorem dX11_retime_77 : decode cX11_retime 77 = .ok (.ldc 109, 2) := by decide +kernel
theorem dX11_retime_79 : decode cX11_retime 79 = .ok (.ireturn, 1) := by decide +kernel
theorem dX11_retime_80 : decode cX11_retime 80 = .ok (.aload_n 0, 1) := by decide +kernel
theorem dX11_retime_81 : decode cX11_retime 81 = .ok (.getfield 65, 3) := by decide +kernel
theorem dX11_retime_84 : decode cX11_retime 84 = .ok (.iload 5, 2) := by decide +kernel
theorem dX11_retime_86 : decode cX11_retime 86 = .ok (.iload 7, 2) := by decide +kernel
theorem dX11_retime_88 : decode cX11_retime 88 = .ok (.invokestatic 101, 3) := by decide +kernel
theorem dX11_retime_91 : decode cX11_retime 91 = .ok (.iload_n 3, 1) := by decide +kernel
theorem dX11_retime_92 : decode cX11_retime 92 = .ok (.iload 7, 2) := by decide +kernel
theorem dX11_retime_94 : decode cX11_retime 94 = .ok (.iload 6, 2) := by decide +kernel
theorem dX11_retime_96 : decode cX11_retime 96 = .ok (.if_icmp .ne 7, 3) := by decide +kernel
theorem dX11_retime_99 : decode cX11_retime 99 = .ok (.iconst 0, 1) := by decide +kernel
theorem dX11_retime_100 : decode cX11_retime 100 = .ok (.goto 4, 3) := by decide +kernel
theorem dX11_retime_103 : decode cX11_retime 103 = .ok (.iconst 1, 1) := by decide +kernel
theorem dX11_retime_104 : decode cX11_retime 104 = .ok (.iadd, 1) := by decide +kernel
theorem dX11_retime_105 : decode cX11_retime 105 = .ok (.istore_n 3, 1) := by decide +kernel
theorem dX11_retime_106 : decode cX11_retime 106 = .ok (.iload 7, 2) := by decide +kernel
theorem dX11_retime_108 : decode cX11_retime 108 = .ok (.istore 4, 2) := by decide +kernel
theorem dX11_retime_110 : decode cX11_retime 110 = .ok (.iinc 5 1, 3) := by decide +kernel
theorem dX11_retime_113 : decode cX11_retime 113 = .ok (.goto (-89), 3) := by decide +kernel
theorem dX11_retime_116 : decode cX11_retime 116 = .ok (.aload_n 0, 1) := by decide +kernel
theorem dX11_retime_117 : decode cX11_retime 117 = .ok (.getfield 19, 3) := by decide +kernel
theorem dX11_retime_120 : decode cX11_retime 120 = .ok (.aload_n 0, 1) := by decide +kernel
theorem dX11_retime_121 : decode cX11_retime 121 = .ok (.getfield 10, 3) := by decide +kernel
theorem dX11_retime_124 : decode cX11_retime 124 = .ok (.invokevirtual 90, 3) := by decide +kernel
theorem dX11_retime_127 : decode cX11_retime 127 = .ok (.aload_n 2, 1) := by decide +kernel
theorem dX11_retime_128 : decode cX11_retime 128 = .ok (.aload_n 0, 1) := by decide +kernel
theorem dX11_retime_129 : decode cX11_retime 129 = .ok (.getfield 10, 3) := by decide +kernel
theorem dX11_retime_132 : decode cX11_retime 132 = .ok (.getfield 168, 3) := by decide +kernel
theorem dX11_retime_135 : decode cX11_retime 135 = .ok (.aload_n 0, 1) := by decide +kernel
theorem dX11_retime_136 : decode cX11_retime 136 = .ok (.getfield 65, 3) := by decide +kernel
theorem dX11_retime_139 : decode cX11_retime 139 = .ok (.invokevirtual 185, 3) := by decide +kernel
theorem dX11_retime_142 : decode cX11_retime 142 = .ok (.iload_n 3, 1) := by decide +kernel
theorem dX11_retime_143 : decode cX11_retime 143 = .ok (.ireturn, 1) := by decide +kernel
theorem dX11_bake_0 : decode cX11_bake 0 = .ok (.aload_n 0, 1) := by decide +kernel
theorem dX11_bake_1 : decode cX11_bake 1 = .ok (.getfield 10, 3) := by decide +kernel
theorem dX11_bake_4 : decode cX11_bake 4 = .ok (.iload_n 1, 1) := by decide +kernel
theorem dX11_bake_5 : decode cX11_bake 5 = .ok (.invokevirtual 69, 3) := by decide +kernel
theorem dX11_bake_8 : decode cX11_bake 8 = .ok (.astore 5, 2) := by decide +kernel
theorem dX11_bake_10 : decode cX11_bake 10 = .ok (.aload 5, 2) := by decide +kernel
theorem dX11_bake_12 : decode cX11_bake 12 = .ok (.ifnonnull 6, 3) := by decide +kernel
theorem dX11_bake_15 : decode cX11_bake 15 = .ok (.ldc 73, 2) := by decide +kernel
theorem dX11_bake_17 : decode cX11_bake 17 = .ok (.ireturn, 1) := by decide +kernel
theorem dX11_bake_18 : decode cX11_bake 18 = .ok (.iload_n 2, 1) := by decide +kernel
theorem dX11_bake_19 : decode cX11_bake 19 = .ok (.iload_n 3, 1) := by decide +kernel
theorem dX11_bake_20 : decode cX11_bake 20 = .ok (.sipush 480, 3) := by decide +kernel
theorem dX11_bake_23 : decode cX11_bake 23 = .ok (.invokestatic 163, 3) := by decide +kernel
theorem dX11_bake_26 : decode cX11_bake 26 = .ok (.ifCond .eq 15, 3) := by decide +kernel
theorem dX11_bake_29 : decode cX11_bake 29 = .ok (.iload 4, 2) := by decide +kernel
theorem dX11_bake_31 : decode cX11_bake 31 = .ok (.iconst 1, 1) := by decide +kernel
theorem dX11_bake_32 : decode cX11_bake 32 = .ok (.sipush 480, 3) := by decide +kernel
theorem dX11_bake_35 : decode cX11_bake 35 = .ok (.invokestatic 74, 3) := by decide +kernel
theorem dX11_bake_38 : decode cX11_bake 38 = .ok (.ifCond .ne 6, 3) := by decide +kernel
theorem dX11_bake_41 : decode cX11_bake 41 = .ok (.ldc 78, 2) := by decide +kernel
theorem dX11_bake_43 : decode cX11_bake 43 = .ok (.ireturn, 1) := by decide +kernel
theorem dX11_bake_44 : decode cX11_bake 44 = .ok (.aload 5, 2) := by decide +kernel
theorem dX11_bake_46 : decode cX11_bake 46 = .ok (.getfield 85, 3) := by decide +kernel
theorem dX11_bake_49 : decode cX11_bake 49 = .ok (.ifCond .ne 6, 3) := by decide +kernel
theorem dX11_bake_52 : decode cX11_bake 52 = .ok (.ldc 109, 2) := by decide +kernel
theorem dX11_bake_54 : decode cX11_bake 54 = .ok (.ireturn, 1) := by decide +kernel
theorem dX11_bake_55 : decode cX11_bake 55 = .ok (.iload_n 2, 1) := by decide +kernel
theorem dX11_bake_56 : decode cX11_bake 56 = .ok (.iload_n 3, 1) := by decide +kernel
theorem dX11_bake_57 : decode cX11_bake 57 = .ok (.iload 4, 2) := by decide +kernel
theorem dX11_bake_59 : decode cX11_bake 59 = .ok (.invokestatic 189, 3) := by decide +kernel
theorem dX11_bake_62 : decode cX11_bake 62 = .ok (.istore 6, 2) := by decide +kernel
theorem dX11_bake_64 : decode cX11_bake 64 = .ok (.aload 5, 2) := by decide +kernel
theorem dX11_bake_66 : decode cX11_bake 66 = .ok (.iload_n 2, 1) := by decide +kernel
theorem dX11_bake_67 : decode cX11_bake 67 = .ok (.iload_n 3, 1) := by decide +kernel
theorem dX11_bake_68 : decode cX11_bake 68 = .ok (.invokevirtual 193, 3) := by decide +kernel
theorem dX11_bake_71 : decode cX11_bake 71 = .ok (.iload 6, 2) := by decide +kernel
theorem dX11_bake_73 : decode cX11_bake 73 = .ok (.iadd, 1) := by decide +kernel
theorem dX11_bake_74 : decode cX11_bake 74 = .ok (.bipush 24, 2) := by decide +kernel
theorem dX11_bake_76 : decode cX11_bake 76 = .ok (.if_icmp .le 6, 3) := by decide +kernel
theorem dX11_bake_79 : decode cX11_bake 79 = .ok (.ldc 89, 2) := by decide +kernel
theorem dX11_bake_81 : decode cX11_bake 81 = .ok (.ireturn, 1) := by decide +kernel
theorem dX11_bake_82 : decode cX11_bake 82 = .ok (.iconst 0, 1) := by decide +kernel
theorem dX11_bake_83 : decode cX11_bake 83 = .ok (.istore 7, 2) := by decide +kernel
theorem dX11_bake_85 : decode cX11_bake 85 = .ok (.iload 7, 2) := by decide +kernel
theorem dX11_bake_87 : decode cX11_bake 87 = .ok (.iload 6, 2) := by decide +kernel
theorem dX11_bake_89 : decode cX11_bake 89 = .ok (.if_icmp .ge 33, 3) := by decide +kernel
theorem dX11_bake_92 : decode cX11_bake 92 = .ok (.aload_n 0, 1) := by decide +kernel
theorem dX11_bake_93 : decode cX11_bake 93 = .ok (.getfield 65, 3) := by decide +kernel
theorem dX11_bake_96 : decode cX11_bake 96 = .ok (.iload 7, 2) := by decide +kernel
theorem dX11_bake_98 : decode cX11_bake 98 = .ok (.aload 5, 2) := by decide +kernel
theorem dX11_bake_100 : decode cX11_bake 100 = .ok (.iload_n 2, 1) := by decide +kernel
theorem dX11_bake_101 : decode cX11_bake 101 = .ok (.iload 7, 2) := by decide +kernel
theorem dX11_bake_103 : decode cX11_bake 103 = .ok (.iload 4, 2) := by decide +kernel
theorem dX11_bake_105 : decode cX11_bake 105 = .ok (.imul, 1) := by decide +kernel
theorem dX11_bake_106 : decode cX11_bake 106 = .ok (.iadd, 1) := by decide +kernel
theorem dX11_bake_107 : decode cX11_bake 107 = .ok (.invokevirtual 159, 3) := by decide +kernel
theorem dX11_bake_110 : decode cX11_bake 110 = .ok (.invokestatic 196, 3) := by decide +kernel
theorem dX11_bake_113 : decode cX11_bake 113 = .ok (.invokestatic 101, 3) := by decide +kernel
theorem dX11_bake_116 : decode cX11_bake 116 = .ok (.iinc 7 1, 3) := by decide +kernel
theorem dX11_bake_119 : decode cX11_bake 119 = .ok (.goto (-34), 3) := by decide +kernel
theorem dX11_bake_122 : decode cX11_bake 122 = .ok (.aload_n 0, 1) := by decide +kernel
theorem dX11_bake_123 : decode cX11_bake 123 = .ok (.getfield 19, 3) := by decide +kernel
theorem dX11_bake_126 : decode cX11_bake 126 = .ok (.aload_n 0, 1) := by decide +kernel
theorem dX11_bake_127 : decode cX11_bake 127 = .ok (.getfield 10, 3) := by decide +kernel
theorem dX11_bake_130 : decode cX11_bake 130 = .ok (.invokevirtual 90, 3) := by decide +kernel
theorem dX11_bake_133 : decode cX11_bake 133 = .ok (.aload 5, 2) := by decide +kernel
theorem dX11_bake_135 : decode cX11_bake 135 = .ok (.iload_n 2, 1) := by decide +kernel
theorem dX11_bake_136 : decode cX11_bake 136 = .ok (.iload_n 3, 1) := by decide +kernel
theorem dX11_bake_137 : decode cX11_bake 137 = .ok (.iload 4, 2) := by decide +kernel
theorem dX11_bake_139 : decode cX11_bake 139 = .ok (.aload_n 0, 1) := by decide +kernel
theorem dX11_bake_140 : decode cX11_bake 140 = .ok (.getfield 65, 3) := by decide +kernel
theorem dX11_bake_143 : decode cX11_bake 143 = .ok (.invokevirtual 199, 3) := by decide +kernel
theorem dX11_bake_146 : decode cX11_bake 146 = .ok (.aload 5, 2) := by decide +kernel
theorem dX11_bake_148 : decode cX11_bake 148 = .ok (.getfield 85, 3) := by decide +kernel
theorem dX11_bake_151 : decode cX11_bake 151 = .ok (.ireturn, 1) := by decide +kernel
theorem dX11_bakeFormula_0 : decode cX11_bakeFormula 0 = .ok (.aload_n 0, 1) := by decide +kernel
theorem dX11_bakeFormula_1 : decode cX11_bakeFormula 1 = .ok (.getfield 10, 3) := by decide +kernel
theorem dX11_bakeFormula_4 : decode cX11_bakeFormula 4 = .ok (.iload_n 1, 1) := by decide +kernel
theorem dX11_bakeFormula_5 : decode cX11_bakeFormula 5 = .ok (.invokevirtual 69, 3) := by decide +kernel
theorem dX11_bakeFormula_8 : decode cX11_bakeFormula 8 = .ok (.astore 5, 2) := by decide +kernel
theorem dX11_bakeFormula_10 : decode cX11_bakeFormula 10 = .ok (.aload 5, 2) := by decide +kernel
theorem dX11_bakeFormula_12 : decode cX11_bakeFormula 12 = .ok (.ifnonnull 6, 3) := by decide +kernel
theorem dX11_bakeFormula_15 : decode cX11_bakeFormula 15 = .ok (.ldc 73, 2) := by decide +kernel
theorem dX11_bakeFormula_17 : decode cX11_bakeFormula 17 = .ok (.ireturn, 1) := by decide +kernel
theorem dX11_bakeFormula_18 : decode cX11_bakeFormula 18 = .ok (.iload_n 2, 1) := by decide +kernel
theorem dX11_bakeFormula_19 : decode cX11_bakeFormula 19 = .ok (.iload_n 3, 1) := by decide +kernel
theorem dX11_bakeFormula_20 : decode cX11_bakeFormula 20 = .ok (.sipush 480, 3) := by decide +kernel
theorem dX11_bakeFormula_23 : decode cX11_bakeFormula 23 = .ok (.invokestatic 163, 3) := by decide +kernel
theorem dX11_bakeFormula_26 : decode cX11_bakeFormula 26 = .ok (.ifCond .eq 15, 3) := by decide +kernel
theorem dX11_bakeFormula_29 : decode cX11_bakeFormula 29 = .ok (.iload 4, 2) := by decide +kernel
theorem dX11_bakeFormula_31 : decode cX11_bakeFormula 31 = .ok (.iconst 1, 1) := by decide +kernel
theorem dX11_bakeFormula_32 : decode cX11_bakeFormula 32 = .ok (.sipush 480, 3) := by decide +kernel
theorem dX11_bakeFormula_35 : decode cX11_bakeFormula 35 = .ok (.invokestatic 74, 3) := by decide +kernel
theorem dX11_bakeFormula_38 : decode cX11_bakeFormula 38 = .ok (.ifCond .ne 6, 3) := by decide +kernel
theorem dX11_bakeFormula_41 : decode cX11_bakeFormula 41 = .ok (.ldc 78, 2) := by decide +kernel
theorem dX11_bakeFormula_43 : decode cX11_bakeFormula 43 = .ok (.ireturn, 1) := by decide +kernel
theorem dX11_bakeFormula_44 : decode cX11_bakeFormula 44 = .ok (.iload_n 2, 1) := by decide +kernel
theorem dX11_bakeFormula_45 : decode cX11_bakeFormula 45 = .ok (.iload_n 3, 1) := by decide +kernel
theorem dX11_bakeFormula_46 : decode cX11_bakeFormula 46 = .ok (.iload 4, 2) := by decide +kernel
theorem dX11_bakeFormula_48 : decode cX11_bakeFormula 48 = .ok (.invokestatic 189, 3) := by decide +kernel
theorem dX11_bakeFormula_51 : decode cX11_bakeFormula 51 = .ok (.istore 6, 2) := by decide +kernel
theorem dX11_bakeFormula_53 : decode cX11_bakeFormula 53 = .ok (.aload 5, 2) := by decide +kernel
theorem dX11_bakeFormula_55 : decode cX11_bakeFormula 55 = .ok (.iload_n 2, 1) := by decide +kernel
theorem dX11_bakeFormula_56 : decode cX11_bakeFormula 56 = .ok (.iload_n 3, 1) := by decide +kernel
theorem dX11_bakeFormula_57 : decode cX11_bakeFormula 57 = .ok (.invokevirtual 193, 3) := by decide +kernel
theorem dX11_bakeFormula_60 : decode cX11_bakeFormula 60 = .ok (.iload 6, 2) := by decide +kernel
theorem dX11_bakeFormula_62 : decode cX11_bakeFormula 62 = .ok (.iadd, 1) := by decide +kernel
theorem dX11_bakeFormula_63 : decode cX11_bakeFormula 63 = .ok (.bipush 24, 2) := by decide +kernel
theorem dX11_bakeFormula_65 : decode cX11_bakeFormula 65 = .ok (.if_icmp .le 6, 3) := by decide +kernel
theorem dX11_bakeFormula_68 : decode cX11_bakeFormula 68 = .ok (.ldc 89, 2) := by decide +kernel
theorem dX11_bakeFormula_70 : decode cX11_bakeFormula 70 = .ok (.ireturn, 1) := by decide +kernel
theorem dX11_bakeFormula_71 : decode cX11_bakeFormula 71 = .ok (.iconst 0, 1) := by decide +kernel
theorem dX11_bakeFormula_72 : decode cX11_bakeFormula 72 = .ok (.istore 7, 2) := by decide +kernel
theorem dX11_bakeFormula_74 : decode cX11_bakeFormula 74 = .ok (.iload 7, 2) := by decide +kernel
theorem dX11_bakeFormula_76 : decode cX11_bakeFormula 76 = .ok (.iload 6, 2) := by decide +kernel
theorem dX11_bakeFormula_78 : decode cX11_bakeFormula 78 = .ok (.if_icmp .ge 39, 3) := by decide +kernel
theorem dX11_bakeFormula_81 : decode cX11_bakeFormula 81 = .ok (.aload_n 0, 1) := by decide +kernel
theorem dX11_bakeFormula_82 : decode cX11_bakeFormula 82 = .ok (.getfield 65, 3) := by decide +kernel
theorem dX11_bakeFormula_85 : decode cX11_bakeFormula 85 = .ok (.iload 7, 2) := by decide +kernel
theorem dX11_bakeFormula_87 : decode cX11_bakeFormula 87 = .ok (.aload_n 0, 1) := by decide +kernel
theorem dX11_bakeFormula_88 : decode cX11_bakeFormula 88 = .ok (.getfield 47, 3) := by decide +kernel
theorem dX11_bakeFormula_91 : decode cX11_bakeFormula 91 = .ok (.aload_n 0, 1) := by decide +kernel
theorem dX11_bakeFormula_92 : decode cX11_bakeFormula 92 = .ok (.getfield 10, 3) := by decide +kernel
theorem dX11_bakeFormula_95 : decode cX11_bakeFormula 95 = .ok (.iload_n 2, 1) := by decide +kernel
theorem dX11_bakeFormula_96 : decode cX11_bakeFormula 96 = .ok (.iload 7, 2) := by decide +kernel
theorem dX11_bakeFormula_98 : decode cX11_bakeFormula 98 = .ok (.iload 4, 2) := by decide +kernel
theorem dX11_bakeFormula_100 : decode cX11_bakeFormula 100 = .ok (.imul, 1) := by decide +kernel
theorem dX11_bakeFormula_101 : decode cX11_bakeFormula 101 = .ok (.iadd, 1) := by decide +kernel
theorem dX11_bakeFormula_102 : decode cX11_bakeFormula 102 = .ok (.invokevirtual 203, 3) := by decide +kernel
theorem dX11_bakeFormula_105 : decode cX11_bakeFormula 105 = .ok (.invokestatic 196, 3) := by decide +kernel
theorem dX11_bakeFormula_108 : decode cX11_bakeFormula 108 = .ok (.invokestatic 101, 3) := by decide +kernel
theorem dX11_bakeFormula_111 : decode cX11_bakeFormula 111 = .ok (.iinc 7 1, 3) := by decide +kernel
theorem dX11_bakeFormula_114 : decode cX11_bakeFormula 114 = .ok (.goto (-40), 3) := by decide +kernel
theorem dX11_bakeFormula_117 : decode cX11_bakeFormula 117 = .ok (.aload_n 0, 1) := by decide +kernel
theorem dX11_bakeFormula_118 : decode cX11_bakeFormula 118 = .ok (.getfield 19, 3) := by decide +kernel
theorem dX11_bakeFormula_121 : decode cX11_bakeFormula 121 = .ok (.aload_n 0, 1) := by decide +kernel
theorem dX11_bakeFormula_122 : decode cX11_bakeFormula 122 = .ok (.getfield 10, 3) := by decide +kernel
theorem dX11_bakeFormula_125 : decode cX11_bakeFormula 125 = .ok (.invokevirtual 90, 3) := by decide +kernel
theorem dX11_bakeFormula_128 : decode cX11_bakeFormula 128 = .ok (.aload 5, 2) := by decide +kernel
theorem dX11_bakeFormula_130 : decode cX11_bakeFormula 130 = .ok (.iload_n 2, 1) := by decide +kernel
theorem dX11_bakeFormula_131 : decode cX11_bakeFormula 131 = .ok (.iload_n 3, 1) := by decide +kernel
theorem dX11_bakeFormula_132 : decode cX11_bakeFormula 132 = .ok (.iload 4, 2) := by decide +kernel
theorem dX11_bakeFormula_134 : decode cX11_bakeFormula 134 = .ok (.aload_n 0, 1) := by decide +kernel
theorem dX11_bakeFormula_135 : decode cX11_bakeFormula 135 = .ok (.getfield 65, 3) := by decide +kernel
theorem dX11_bakeFormula_138 : decode cX11_bakeFormula 138 = .ok (.invokevirtual 199, 3) := by decide +kernel
theorem dX11_bakeFormula_141 : decode cX11_bakeFormula 141 = .ok (.aload 5, 2) := by decide +kernel
theorem dX11_bakeFormula_143 : decode cX11_bakeFormula 143 = .ok (.getfield 85, 3) := by decide +kernel
theorem dX11_bakeFormula_146 : decode cX11_bakeFormula 146 = .ok (.ireturn, 1) := by decide +kernel
theorem dX11_polyline_0 : decode cX11_polyline 0 = .ok (.aload_n 0, 1) := by decide +kernel
theorem dX11_polyline_1 : decode cX11_polyline 1 = .ok (.getfield 10, 3) := by decide +kernel
theorem dX11_polyline_4 : decode cX11_polyline 4 = .ok (.iload_n 1, 1) := by decide +kernel
theorem dX11_polyline_5 : decode cX11_polyline 5 = .ok (.invokevirtual 69, 3) := by decide +kernel
theorem dX11_polyline_8 : decode cX11_polyline 8 = .ok (.astore 6, 2) := by decide +kernel
theorem dX11_polyline_10 : decode cX11_polyline 10 = .ok (.aload 6, 2) := by decide +kernel
theorem dX11_polyline_12 : decode cX11_polyline 12 = .ok (.ifnonnull 6, 3) := by decide +kernel
theorem dX11_polyline_15 : decode cX11_polyline 15 = .ok (.ldc 73, 2) := by decide +kernel
theorem dX11_polyline_17 : decode cX11_polyline 17 = .ok (.ireturn, 1) := by decide +kernel
theorem dX11_polyline_18 : decode cX11_polyline 18 = .ok (.iload_n 2, 1) := by decide +kernel
theorem dX11_polyline_19 : decode cX11_polyline 19 = .ok (.iconst 0, 1) := by decide +kernel
theorem dX11_polyline_20 : decode cX11_polyline 20 = .ok (.sipush 960, 3) := by decide +kernel
theorem dX11_polyline_23 : decode cX11_polyline 23 = .ok (.invokestatic 74, 3) := by decide +kernel
theorem dX11_polyline_26 : decode cX11_polyline 26 = .ok (.ifCond .eq 23, 3) := by decide +kernel
theorem dX11_polyline_29 : decode cX11_polyline 29 = .ok (.iload_n 3, 1) := by decide +kernel
theorem dX11_polyline_30 : decode cX11_polyline 30 = .ok (.iload_n 2, 1) := by decide +kernel
theorem dX11_polyline_31 : decode cX11_polyline 31 = .ok (.iconst 1, 1) := by decide +kernel
theorem dX11_polyline_32 : decode cX11_polyline 32 = .ok (.iadd, 1) := by decide +kernel
theorem dX11_polyline_33 : decode cX11_polyline 33 = .ok (.iload_n 2, 1) := by decide +kernel
theorem dX11_polyline_34 : decode cX11_polyline 34 = .ok (.bipush 40, 2) := by decide +kernel
theorem dX11_polyline_36 : decode cX11_polyline 36 = .ok (.iadd, 1) := by decide +kernel
theorem dX11_polyline_37 : decode cX11_polyline 37 = .ok (.sipush 960, 3) := by decide +kernel
theorem dX11_polyline_40 : decode cX11_polyline 40 = .ok (.invokestatic 207, 3) := by decide +kernel
theorem dX11_polyline_43 : decode cX11_polyline 43 = .ok (.invokestatic 74, 3) := by decide +kernel
theorem dX11_polyline_46 : decode cX11_polyline 46 = .ok (.ifCond .ne 6, 3) := by decide +kernel
theorem dX11_polyline_49 : decode cX11_polyline 49 = .ok (.ldc 78, 2) := by decide +kernel
theorem dX11_polyline_51 : decode cX11_polyline 51 = .ok (.ireturn, 1) := by decide +kernel
theorem dX11_polyline_52 : decode cX11_polyline 52 = .ok (.iload 4, 2) := by decide +kernel
theorem dX11_polyline_54 : decode cX11_polyline 54 = .ok (.iconst 0, 1) := by decide +kernel
theorem dX11_polyline_55 : decode cX11_polyline 55 = .ok (.sipush 9999, 3) := by decide +kernel
theorem dX11_polyline_58 : decode cX11_polyline 58 = .ok (.invokestatic 74, 3) := by decide +kernel
theorem dX11_polyline_61 : decode cX11_polyline 61 = .ok (.ifCond .eq 9, 3) := by decide +kernel
theorem dX11_polyline_64 : decode cX11_polyline 64 = .ok (.iload 5, 2) := by decide +kernel
theorem dX11_polyline_66 : decode cX11_polyline 66 = .ok (.iconst (-1), 1) := by decide +kernel
theorem dX11_polyline_67 : decode cX11_polyline 67 = .ok (.if_icmp .ge 6, 3) := by decide +kernel
theorem dX11_polyline_70 : decode cX11_polyline 70 = .ok (.ldc 78, 2) := by decide +kernel
theorem dX11_polyline_72 : decode cX11_polyline 72 = .ok (.ireturn, 1) := by decide +kernel
theorem dX11_polyline_73 : decode cX11_polyline 73 = .ok (.aload 6, 2) := by decide +kernel
theorem dX11_polyline_75 : decode cX11_polyline 75 = .ok (.getfield 85, 3) := by decide +kernel
theorem dX11_polyline_78 : decode cX11_polyline 78 = .ok (.ifCond .ne 6, 3) := by decide +kernel
theorem dX11_polyline_81 : decode cX11_polyline 81 = .ok (.ldc 109, 2) := by decide +kernel
theorem dX11_polyline_83 : decode cX11_polyline 83 = .ok (.ireturn, 1) := by decide +kernel
theorem dX11_polyline_84 : decode cX11_polyline 84 = .ok (.aload_n 0, 1) := by decide +kernel
theorem dX11_polyline_85 : decode cX11_polyline 85 = .ok (.getfield 54, 3) := by decide +kernel
theorem dX11_polyline_88 : decode cX11_polyline 88 = .ok (.aload 6, 2) := by decide +kernel
theorem dX11_polyline_90 : decode cX11_polyline 90 = .ok (.iload_n 2, 1) := by decide +kernel
theorem dX11_polyline_91 : decode cX11_polyline 91 = .ok (.iload_n 3, 1) := by decide +kernel
theorem dX11_polyline_92 : decode cX11_polyline 92 = .ok (.iload 4, 2) := by decide +kernel
theorem dX11_polyline_94 : decode cX11_polyline 94 = .ok (.invokevirtual 212, 3) := by decide +kernel
theorem dX11_polyline_97 : decode cX11_polyline 97 = .ok (.iload 5, 2) := by decide +kernel
theorem dX11_polyline_99 : decode cX11_polyline 99 = .ok (.iconst (-1), 1) := by decide +kernel
theorem dX11_polyline_100 : decode cX11_polyline 100 = .ok (.if_icmp .ne 13, 3) := by decide +kernel
theorem dX11_polyline_103 : decode cX11_polyline 103 = .ok (.aload_n 0, 1) := by decide +kernel
theorem dX11_polyline_104 : decode cX11_polyline 104 = .ok (.getfield 54, 3) := by decide +kernel
theorem dX11_polyline_107 : decode cX11_polyline 107 = .ok (.invokevirtual 216, 3) := by decide +kernel
theorem dX11_polyline_110 : decode cX11_polyline 110 = .ok (.goto 13, 3) := by decide +kernel
theorem dX11_polyline_113 : decode cX11_polyline 113 = .ok (.aload_n 0, 1) := by decide +kernel
theorem dX11_polyline_114 : decode cX11_polyline 114 = .ok (.getfield 54, 3) := by decide +kernel
theorem dX11_polyline_117 : decode cX11_polyline 117 = .ok (.iload_n 2, 1) := by decide +kernel
theorem dX11_polyline_118 : decode cX11_polyline 118 = .ok (.iload 5, 2) := by decide +kernel
theorem dX11_polyline_120 : decode cX11_polyline 120 = .ok (.invokevirtual 219, 3) := by decide +kernel
theorem dX11_polyline_123 : decode cX11_polyline 123 = .ok (.ireturn, 1) := by decide +kernel
theorem dX11_decimate_0 : decode cX11_decimate 0 = .ok (.aload_n 0, 1) := by decide +kernel
theorem dX11_decimate_1 : decode cX11_decimate 1 = .ok (.getfield 10, 3) := by decide +kernel
theorem dX11_decimate_4 : decode cX11_decimate 4 = .ok (.iload_n 1, 1) := by decide +kernel
theorem dX11_decimate_5 : decode cX11_decimate 5 = .ok (.invokevirtual 69, 3) := by decide +kernel
theorem dX11_decimate_8 : decode cX11_decimate 8 = .ok (.astore_n 3, 1) := by decide +kernel
theorem dX11_decimate_9 : decode cX11_decimate 9 = .ok (.aload_n 3, 1) := by decide +kernel
theorem dX11_decimate_10 : decode cX11_decimate 10 = .ok (.ifnonnull 6, 3) := by decide +kernel
theorem dX11_decimate_13 : decode cX11_decimate 13 = .ok (.ldc 73, 2) := by decide +kernel
theorem dX11_decimate_15 : decode cX11_decimate 15 = .ok (.ireturn, 1) := by decide +kernel
theorem dX11_decimate_16 : decode cX11_decimate 16 = .ok (.iload_n 2, 1) := by decide +kernel
theorem dX11_decimate_17 : decode cX11_decimate 17 = .ok (.iconst 0, 1) := by decide +kernel
theorem dX11_decimate_18 : decode cX11_decimate 18 = .ok (.sipush 9999, 3) := by decide +kernel
theorem dX11_decimate_21 : decode cX11_decimate 21 = .ok (.invokestatic 74, 3) := by decide +kernel
theorem dX11_decimate_24 : decode cX11_decimate 24 = .ok (.ifCond .ne 6, 3) := by decide +kernel
theorem dX11_decimate_27 : decode cX11_decimate 27 = .ok (.ldc 78, 2) := by decide +kernel
theorem dX11_decimate_29 : decode cX11_decimate 29 = .ok (.ireturn, 1) := by decide +kernel
theorem dX11_decimate_30 : decode cX11_decimate 30 = .ok (.aload_n 0, 1) := by decide +kernel
theorem dX11_decimate_31 : decode cX11_decimate 31 = .ok (.getfield 19, 3) := by decide +kernel
theorem dX11_decimate_34 : decode cX11_decimate 34 = .ok (.aload_n 0, 1) := by decide +kernel
theorem dX11_decimate_35 : decode cX11_decimate 35 = .ok (.getfield 10, 3) := by decide +kernel
theorem dX11_decimate_38 : decode cX11_decimate 38 = .ok (.invokevirtual 90, 3) := by decide +kernel
theorem dX11_decimate_41 : decode cX11_decimate 41 = .ok (.aload_n 0, 1) := by decide +kernel
theorem dX11_decimate_42 : decode cX11_decimate 42 = .ok (.getfield 61, 3) := by decide +kernel
theorem dX11_decimate_45 : decode cX11_decimate 45 = .ok (.aload_n 3, 1) := by decide +kernel
theorem dX11_decimate_46 : decode cX11_decimate 46 = .ok (.iload_n 2, 1) := by decide +kernel
theorem dX11_decimate_47 : decode cX11_decimate 47 = .ok (.invokevirtual 222, 3) := by decide +kernel
theorem dX11_decimate_50 : decode cX11_decimate 50 = .ok (.ireturn, 1) := by decide +kernel
theorem dX11_append_0 : decode cX11_append 0 = .ok (.iload_n 1, 1) := by decide +kernel
theorem dX11_append_1 : decode cX11_append 1 = .ok (.iconst 0, 1) := by decide +kernel
theorem dX11_append_2 : decode cX11_append 2 = .ok (.bipush 127, 2) := by decide +kernel
theorem dX11_append_4 : decode cX11_append 4 = .ok (.invokestatic 74, 3) := by decide +kernel
theorem dX11_append_7 : decode cX11_append 7 = .ok (.ifCond .ne 6, 3) := by decide +kernel
theorem dX11_append_10 : decode cX11_append 10 = .ok (.ldc 78, 2) := by decide +kernel
theorem dX11_append_12 : decode cX11_append 12 = .ok (.ireturn, 1) := by decide +kernel
theorem dX11_append_13 : decode cX11_append 13 = .ok (.aload_n 0, 1) := by decide +kernel
theorem dX11_append_14 : decode cX11_append 14 = .ok (.getfield 26, 3) := by decide +kernel
theorem dX11_append_17 : decode cX11_append 17 = .ok (.getfield 226, 3) := by decide +kernel
theorem dX11_append_20 : decode cX11_append 20 = .ok (.bipush 120, 2) := by decide +kernel
theorem dX11_append_22 : decode cX11_append 22 = .ok (.if_icmp .lt 8, 3) := by decide +kernel
theorem dX11_append_25 : decode cX11_append 25 = .ok (.ldc 89, 2) := by decide +kernel
theorem dX11_append_27 : decode cX11_append 27 = .ok (.goto 11, 3) := by decide +kernel
theorem dX11_append_30 : decode cX11_append 30 = .ok (.aload_n 0, 1) := by decide +kernel
theorem dX11_append_31 : decode cX11_append 31 = .ok (.getfield 26, 3) := by decide +kernel
theorem dX11_append_34 : decode cX11_append 34 = .ok (.iload_n 1, 1) := by decide +kernel
theorem dX11_append_35 : decode cX11_append 35 = .ok (.invokevirtual 229, 3) := by decide +kernel
theorem dX11_append_38 : decode cX11_append 38 = .ok (.ireturn, 1) := by decide +kernel
theorem dX11_clearText_0 : decode cX11_clearText 0 = .ok (.aload_n 0, 1) := by decide +kernel
theorem dX11_clearText_1 : decode cX11_clearText 1 = .ok (.getfield 26, 3) := by decide +kernel
theorem dX11_clearText_4 : decode cX11_clearText 4 = .ok (.getfield 226, 3) := by decide +kernel
theorem dX11_clearText_7 : decode cX11_clearText 7 = .ok (.istore_n 1, 1) := by decide +kernel
theorem dX11_clearText_8 : decode cX11_clearText 8 = .ok (.aload_n 0, 1) := by decide +kernel
theorem dX11_clearText_9 : decode cX11_clearText 9 = .ok (.getfield 26, 3) := by decide +kernel
theorem dX11_clearText_12 : decode cX11_clearText 12 = .ok (.iconst 0, 1) := by decide +kernel
theorem dX11_clearText_13 : decode cX11_clearText 13 = .ok (.putfield 226, 3) := by decide +kernel
theorem dX11_clearText_16 : decode cX11_clearText 16 = .ok (.iload_n 1, 1) := by decide +kernel
theorem dX11_clearText_17 : decode cX11_clearText 17 = .ok (.ireturn, 1) := by decide +kernel
theorem dX11_faultPosition_0 : decode cX11_faultPosition 0 = .ok (.iload_n 1, 1) := by decide +kernel
theorem dX11_faultPosition_1 : decode cX11_faultPosition 1 = .ok (.ifCond .eq 17, 3) := by decide +kernel
theorem dX11_faultPosition_4 : decode cX11_faultPosition 4 = .ok (.aload_n 0, 1) := by decide +kernel
theorem dX11_faultPosition_5 : decode cX11_faultPosition 5 = .ok (.getfield 33, 3) := by decide +kernel
theorem dX11_faultPosition_8 : decode cX11_faultPosition 8 = .ok (.aload_n 0, 1) := by decide +kernel
theorem dX11_faultPosition_9 : decode cX11_faultPosition 9 = .ok (.getfield 26, 3) := by decide +kernel
theorem dX11_faultPosition_12 : decode cX11_faultPosition 12 = .ok (.invokevirtual 231, 3) := by decide +kernel
theorem dX11_faultPosition_15 : decode cX11_faultPosition 15 = .ok (.goto 14, 3) := by decide +kernel
theorem dX11_faultPosition_18 : decode cX11_faultPosition 18 = .ok (.aload_n 0, 1) := by decide +kernel
theorem dX11_faultPosition_19 : decode cX11_faultPosition 19 = .ok (.getfield 40, 3) := by decide +kernel
theorem dX11_faultPosition_22 : decode cX11_faultPosition 22 = .ok (.aload_n 0, 1) := by decide +kernel
theorem dX11_faultPosition_23 : decode cX11_faultPosition 23 = .ok (.getfield 26, 3) := by decide +kernel
theorem dX11_faultPosition_26 : decode cX11_faultPosition 26 = .ok (.invokevirtual 235, 3) := by decide +kernel
theorem dX11_faultPosition_29 : decode cX11_faultPosition 29 = .ok (.ireturn, 1) := by decide +kernel
theorem dX11_readCurve_0 : decode cX11_readCurve 0 = .ok (.aload_n 0, 1) := by decide +kernel
theorem dX11_readCurve_1 : decode cX11_readCurve 1 = .ok (.getfield 10, 3) := by decide +kernel
theorem dX11_readCurve_4 : decode cX11_readCurve 4 = .ok (.iload_n 1, 1) := by decide +kernel
theorem dX11_readCurve_5 : decode cX11_readCurve 5 = .ok (.invokevirtual 69, 3) := by decide +kernel
theorem dX11_readCurve_8 : decode cX11_readCurve 8 = .ok (.astore_n 2, 1) := by decide +kernel
theorem dX11_readCurve_9 : decode cX11_readCurve 9 = .ok (.aload_n 2, 1) := by decide +kernel
theorem dX11_readCurve_10 : decode cX11_readCurve 10 = .ok (.ifnonnull 6, 3) := by decide +kernel
theorem dX11_readCurve_13 : decode cX11_readCurve 13 = .ok (.ldc 73, 2) := by decide +kernel
theorem dX11_readCurve_15 : decode cX11_readCurve 15 = .ok (.ireturn, 1) := by decide +kernel
theorem dX11_readCurve_16 : decode cX11_readCurve 16 = .ok (.aload_n 0, 1) := by decide +kernel
theorem dX11_readCurve_17 : decode cX11_readCurve 17 = .ok (.getfield 40, 3) := by decide +kernel
theorem dX11_readCurve_20 : decode cX11_readCurve 20 = .ok (.aload_n 0, 1) := by decide +kernel
theorem dX11_readCurve_21 : decode cX11_readCurve 21 = .ok (.getfield 26, 3) := by decide +kernel
theorem dX11_readCurve_24 : decode cX11_readCurve 24 = .ok (.invokevirtual 235, 3) := by decide +kernel
theorem dX11_readCurve_27 : decode cX11_readCurve 27 = .ok (.ldc 158, 2) := by decide +kernel
theorem dX11_readCurve_29 : decode cX11_readCurve 29 = .ok (.if_icmp .eq 6, 3) := by decide +kernel
theorem dX11_readCurve_32 : decode cX11_readCurve 32 = .ok (.ldc 78, 2) := by decide +kernel
theorem dX11_readCurve_34 : decode cX11_readCurve 34 = .ok (.ireturn, 1) := by decide +kernel
theorem dX11_readCurve_35 : decode cX11_readCurve 35 = .ok (.aload_n 0, 1) := by decide +kernel
theorem dX11_readCurve_36 : decode cX11_readCurve 36 = .ok (.getfield 19, 3) := by decide +kernel
theorem dX11_readCurve_39 : decode cX11_readCurve 39 = .ok (.aload_n 0, 1) := by decide +kernel
theorem dX11_readCurve_40 : decode cX11_readCurve 40 = .ok (.getfield 10, 3) := by decide +kernel
theorem dX11_readCurve_43 : decode cX11_readCurve 43 = .ok (.invokevirtual 90, 3) := by decide +kernel
theorem dX11_readCurve_46 : decode cX11_readCurve 46 = .ok (.aload_n 2, 1) := by decide +kernel
theorem dX11_readCurve_47 : decode cX11_readCurve 47 = .ok (.aload_n 0, 1) := by decide +kernel
theorem dX11_readCurve_48 : decode cX11_readCurve 48 = .ok (.getfield 40, 3) := by decide +kernel
theorem dX11_readCurve_51 : decode cX11_readCurve 51 = .ok (.getfield 236, 3) := by decide +kernel
theorem dX11_readCurve_54 : decode cX11_readCurve 54 = .ok (.invokevirtual 240, 3) := by decide +kernel
theorem dX11_readCurve_57 : decode cX11_readCurve 57 = .ok (.aload_n 2, 1) := by decide +kernel
theorem dX11_readCurve_58 : decode cX11_readCurve 58 = .ok (.getfield 85, 3) := by decide +kernel
theorem dX11_readCurve_61 : decode cX11_readCurve 61 = .ok (.ireturn, 1) := by decide +kernel
theorem dX11_readFormula_0 : decode cX11_readFormula 0 = .ok (.aload_n 0, 1) := by decide +kernel
theorem dX11_readFormula_1 : decode cX11_readFormula 1 = .ok (.getfield 33, 3) := by decide +kernel
theorem dX11_readFormula_4 : decode cX11_readFormula 4 = .ok (.aload_n 0, 1) := by decide +kernel
theorem dX11_readFormula_5 : decode cX11_readFormula 5 = .ok (.getfield 26, 3) := by decide +kernel
theorem dX11_readFormula_8 : decode cX11_readFormula 8 = .ok (.invokevirtual 231, 3) := by decide +kernel
theorem dX11_readFormula_11 : decode cX11_readFormula 11 = .ok (.ldc 158, 2) := by decide +kernel
theorem dX11_readFormula_13 : decode cX11_readFormula 13 = .ok (.if_icmp .eq 6, 3) := by decide +kernel
theorem dX11_readFormula_16 : decode cX11_readFormula 16 = .ok (.ldc 78, 2) := by decide +kernel
theorem dX11_readFormula_18 : decode cX11_readFormula 18 = .ok (.ireturn, 1) := by decide +kernel
theorem dX11_readFormula_19 : decode cX11_readFormula 19 = .ok (.aload_n 0, 1) := by decide +kernel
theorem dX11_readFormula_20 : decode cX11_readFormula 20 = .ok (.getfield 19, 3) := by decide +kernel
theorem dX11_readFormula_23 : decode cX11_readFormula 23 = .ok (.aload_n 0, 1) := by decide +kernel
theorem dX11_readFormula_24 : decode cX11_readFormula 24 = .ok (.getfield 10, 3) := by decide +kernel
theorem dX11_readFormula_27 : decode cX11_readFormula 27 = .ok (.invokevirtual 90, 3) := by decide +kernel
theorem dX11_readFormula_30 : decode cX11_readFormula 30 = .ok (.aload_n 0, 1) := by decide +kernel
theorem dX11_readFormula_31 : decode cX11_readFormula 31 = .ok (.getfield 10, 3) := by decide +kernel
theorem dX11_readFormula_34 : decode cX11_readFormula 34 = .ok (.getfield 244, 3) := by decide +kernel
theorem dX11_readFormula_37 : decode cX11_readFormula 37 = .ok (.aload_n 0, 1) := by decide +kernel
theorem dX11_readFormula_38 : decode cX11_readFormula 38 = .ok (.getfield 33, 3) := by decide +kernel
theorem dX11_readFormula_41 : decode cX11_readFormula 41 = .ok (.getfield 248, 3) := by decide +kernel
theorem dX11_readFormula_44 : decode cX11_readFormula 44 = .ok (.invokevirtual 250, 3) := by decide +kernel
theorem dX11_readFormula_47 : decode cX11_readFormula 47 = .ok (.aload_n 0, 1) := by decide +kernel
theorem dX11_readFormula_48 : decode cX11_readFormula 48 = .ok (.getfield 10, 3) := by decide +kernel
theorem dX11_readFormula_51 : decode cX11_readFormula 51 = .ok (.getfield 244, 3) := by decide +kernel
theorem dX11_readFormula_54 : decode cX11_readFormula 54 = .ok (.invokevirtual 256, 3) := by decide +kernel
theorem dX11_readFormula_57 : decode cX11_readFormula 57 = .ok (.ireturn, 1) := by decide +kernel
theorem dX11_mix_0 : decode cX11_mix 0 = .ok (.iload_n 1, 1) := by decide +kernel
theorem dX11_mix_1 : decode cX11_mix 1 = .ok (.iconst 0, 1) := by decide +kernel
theorem dX11_mix_2 : decode cX11_mix 2 = .ok (.sipush 960, 3) := by decide +kernel
theorem dX11_mix_5 : decode cX11_mix 5 = .ok (.invokestatic 74, 3) := by decide +kernel
theorem dX11_mix_8 : decode cX11_mix 8 = .ok (.ifCond .eq 18, 3) := by decide +kernel
theorem dX11_mix_11 : decode cX11_mix 11 = .ok (.aload_n 0, 1) := by decide +kernel
theorem dX11_mix_12 : decode cX11_mix 12 = .ok (.getfield 47, 3) := by decide +kernel
theorem dX11_mix_15 : decode cX11_mix 15 = .ok (.aload_n 0, 1) := by decide +kernel
theorem dX11_mix_16 : decode cX11_mix 16 = .ok (.getfield 10, 3) := by decide +kernel
theorem dX11_mix_19 : decode cX11_mix 19 = .ok (.iload_n 1, 1) := by decide +kernel
theorem dX11_mix_20 : decode cX11_mix 20 = .ok (.invokevirtual 203, 3) := by decide +kernel
theorem dX11_mix_23 : decode cX11_mix 23 = .ok (.goto 5, 3) := by decide +kernel
theorem dX11_mix_26 : decode cX11_mix 26 = .ok (.ldc 78, 2) := by decide +kernel
theorem dX11_mix_28 : decode cX11_mix 28 = .ok (.ireturn, 1) := by decide +kernel
theorem dX11_undo_0 : decode cX11_undo 0 = .ok (.aload_n 0, 1) := by decide +kernel
theorem dX11_undo_1 : decode cX11_undo 1 = .ok (.getfield 19, 3) := by decide +kernel
theorem dX11_undo_4 : decode cX11_undo 4 = .ok (.aload_n 0, 1) := by decide +kernel
theorem dX11_undo_5 : decode cX11_undo 5 = .ok (.getfield 10, 3) := by decide +kernel
theorem dX11_undo_8 : decode cX11_undo 8 = .ok (.invokevirtual 259, 3) := by decide +kernel
theorem dX11_undo_11 : decode cX11_undo 11 = .ok (.ireturn, 1) := by decide +kernel
theorem dX11_checksum_0 : decode cX11_checksum 0 = .ok (.ldc2_w 263, 3) := by decide +kernel
theorem dX11_checksum_3 : decode cX11_checksum 3 = .ok (.lstore_n 1, 1) := by decide +kernel
theorem dX11_checksum_4 : decode cX11_checksum 4 = .ok (.iconst 0, 1) := by decide +kernel
theorem dX11_checksum_5 : decode cX11_checksum 5 = .ok (.istore_n 3, 1) := by decide +kernel
theorem dX11_checksum_6 : decode cX11_checksum 6 = .ok (.iload_n 3, 1) := by decide +kernel
theorem dX11_checksum_7 : decode cX11_checksum 7 = .ok (.iconst 4, 1) := by decide +kernel
theorem dX11_checksum_8 : decode cX11_checksum 8 = .ok (.if_icmp .ge 31, 3) := by decide +kernel
theorem dX11_checksum_11 : decode cX11_checksum 11 = .ok (.aload_n 0, 1) := by decide +kernel
theorem dX11_checksum_12 : decode cX11_checksum 12 = .ok (.getfield 10, 3) := by decide +kernel
theorem dX11_checksum_15 : decode cX11_checksum 15 = .ok (.iload_n 3, 1) := by decide +kernel
theorem dX11_checksum_16 : decode cX11_checksum 16 = .ok (.invokevirtual 69, 3) := by decide +kernel
theorem dX11_checksum_19 : decode cX11_checksum 19 = .ok (.astore 4, 2) := by decide +kernel
theorem dX11_checksum_21 : decode cX11_checksum 21 = .ok (.aload 4, 2) := by decide +kernel
theorem dX11_checksum_23 : decode cX11_checksum 23 = .ok (.ifnull 10, 3) := by decide +kernel
theorem dX11_checksum_26 : decode cX11_checksum 26 = .ok (.aload 4, 2) := by decide +kernel
theorem dX11_checksum_28 : decode cX11_checksum 28 = .ok (.lload_n 1, 1) := by decide +kernel
theorem dX11_checksum_29 : decode cX11_checksum 29 = .ok (.invokevirtual 265, 3) := by decide +kernel
theorem dX11_checksum_32 : decode cX11_checksum 32 = .ok (.lstore_n 1, 1) := by decide +kernel
theorem dX11_checksum_33 : decode cX11_checksum 33 = .ok (.iinc 3 1, 3) := by decide +kernel
theorem dX11_checksum_36 : decode cX11_checksum 36 = .ok (.goto (-30), 3) := by decide +kernel
theorem dX11_checksum_39 : decode cX11_checksum 39 = .ok (.aload_n 0, 1) := by decide +kernel
theorem dX11_checksum_40 : decode cX11_checksum 40 = .ok (.getfield 10, 3) := by decide +kernel
theorem dX11_checksum_43 : decode cX11_checksum 43 = .ok (.getfield 168, 3) := by decide +kernel
theorem dX11_checksum_46 : decode cX11_checksum 46 = .ok (.lload_n 1, 1) := by decide +kernel
theorem dX11_checksum_47 : decode cX11_checksum 47 = .ok (.invokevirtual 269, 3) := by decide +kernel
theorem dX11_checksum_50 : decode cX11_checksum 50 = .ok (.lstore_n 1, 1) := by decide +kernel
theorem dX11_checksum_51 : decode cX11_checksum 51 = .ok (.iconst 0, 1) := by decide +kernel
theorem dX11_checksum_52 : decode cX11_checksum 52 = .ok (.istore_n 3, 1) := by decide +kernel
theorem dX11_checksum_53 : decode cX11_checksum 53 = .ok (.iload_n 3, 1) := by decide +kernel
theorem dX11_checksum_54 : decode cX11_checksum 54 = .ok (.sipush 960, 3) := by decide +kernel
theorem dX11_checksum_57 : decode cX11_checksum 57 = .ok (.if_icmp .gt 29, 3) := by decide +kernel
theorem dX11_checksum_60 : decode cX11_checksum 60 = .ok (.ldc2_w 270, 3) := by decide +kernel
theorem dX11_checksum_63 : decode cX11_checksum 63 = .ok (.lload_n 1, 1) := by decide +kernel
theorem dX11_checksum_64 : decode cX11_checksum 64 = .ok (.lmul, 1) := by decide +kernel
theorem dX11_checksum_65 : decode cX11_checksum 65 = .ok (.aload_n 0, 1) := by decide +kernel
theorem dX11_checksum_66 : decode cX11_checksum 66 = .ok (.getfield 47, 3) := by decide +kernel
theorem dX11_checksum_69 : decode cX11_checksum 69 = .ok (.aload_n 0, 1) := by decide +kernel
theorem dX11_checksum_70 : decode cX11_checksum 70 = .ok (.getfield 10, 3) := by decide +kernel
theorem dX11_checksum_73 : decode cX11_checksum 73 = .ok (.iload_n 3, 1) := by decide +kernel
theorem dX11_checksum_74 : decode cX11_checksum 74 = .ok (.invokevirtual 203, 3) := by decide +kernel
theorem dX11_checksum_77 : decode cX11_checksum 77 = .ok (.i2l, 1) := by decide +kernel
theorem dX11_checksum_78 : decode cX11_checksum 78 = .ok (.ladd, 1) := by decide +kernel
theorem dX11_checksum_79 : decode cX11_checksum 79 = .ok (.lstore_n 1, 1) := by decide +kernel
theorem dX11_checksum_80 : decode cX11_checksum 80 = .ok (.iinc 3 60, 3) := by decide +kernel
theorem dX11_checksum_83 : decode cX11_checksum 83 = .ok (.goto (-30), 3) := by decide +kernel
theorem dX11_checksum_86 : decode cX11_checksum 86 = .ok (.lload_n 1, 1) := by decide +kernel
theorem dX11_checksum_87 : decode cX11_checksum 87 = .ok (.lreturn, 1) := by decide +kernel
theorem dX11_within_0 : decode cX11_within 0 = .ok (.iload_n 0, 1) := by decide +kernel
theorem dX11_within_1 : decode cX11_within 1 = .ok (.iload_n 1, 1) := by decide +kernel
theorem dX11_within_2 : decode cX11_within 2 = .ok (.if_icmp .lt 12, 3) := by decide +kernel
theorem dX11_within_5 : decode cX11_within 5 = .ok (.iload_n 0, 1) := by decide +kernel
theorem dX11_within_6 : decode cX11_within 6 = .ok (.iload_n 2, 1) := by decide +kernel
theorem dX11_within_7 : decode cX11_within 7 = .ok (.if_icmp .gt 7, 3) := by decide +kernel
theorem dX11_within_10 : decode cX11_within 10 = .ok (.iconst 1, 1) := by decide +kernel
theorem dX11_within_11 : decode cX11_within 11 = .ok (.goto 4, 3) := by decide +kernel
theorem dX11_within_14 : decode cX11_within 14 = .ok (.iconst 0, 1) := by decide +kernel
theorem dX11_within_15 : decode cX11_within 15 = .ok (.ireturn, 1) := by decide +kernel
theorem dX11_isRange_0 : decode cX11_isRange 0 = .ok (.iload_n 0, 1) := by decide +kernel
theorem dX11_isRange_1 : decode cX11_isRange 1 = .ok (.ifCond .lt 17, 3) := by decide +kernel
theorem dX11_isRange_4 : decode cX11_isRange 4 = .ok (.iload_n 0, 1) := by decide +kernel
theorem dX11_isRange_5 : decode cX11_isRange 5 = .ok (.iload_n 1, 1) := by decide +kernel
theorem dX11_isRange_6 : decode cX11_isRange 6 = .ok (.if_icmp .gt 12, 3) := by decide +kernel
theorem dX11_isRange_9 : decode cX11_isRange 9 = .ok (.iload_n 1, 1) := by decide +kernel
theorem dX11_isRange_10 : decode cX11_isRange 10 = .ok (.iload_n 2, 1) := by decide +kernel
theorem dX11_isRange_11 : decode cX11_isRange 11 = .ok (.if_icmp .gt 7, 3) := by decide +kernel
theorem dX11_isRange_14 : decode cX11_isRange 14 = .ok (.iconst 1, 1) := by decide +kernel
theorem dX11_isRange_15 : decode cX11_isRange 15 = .ok (.goto 4, 3) := by decide +kernel
theorem dX11_isRange_18 : decode cX11_isRange 18 = .ok (.iconst 0, 1) := by decide +kernel
theorem dX11_isRange_19 : decode cX11_isRange 19 = .ok (.ireturn, 1) := by decide +kernel
theorem dX11_stepsIn_0 : decode cX11_stepsIn 0 = .ok (.iload_n 2, 1) := by decide +kernel
theorem dX11_stepsIn_1 : decode cX11_stepsIn 1 = .ok (.ifCond .le 13, 3) := by decide +kernel
theorem dX11_stepsIn_4 : decode cX11_stepsIn 4 = .ok (.iload_n 1, 1) := by decide +kernel
theorem dX11_stepsIn_5 : decode cX11_stepsIn 5 = .ok (.iload_n 0, 1) := by decide +kernel
theorem dX11_stepsIn_6 : decode cX11_stepsIn 6 = .ok (.isub, 1) := by decide +kernel
theorem dX11_stepsIn_7 : decode cX11_stepsIn 7 = .ok (.iload_n 2, 1) := by decide +kernel
theorem dX11_stepsIn_8 : decode cX11_stepsIn 8 = .ok (.idiv, 1) := by decide +kernel
theorem dX11_stepsIn_9 : decode cX11_stepsIn 9 = .ok (.iconst 1, 1) := by decide +kernel
theorem dX11_stepsIn_10 : decode cX11_stepsIn 10 = .ok (.iadd, 1) := by decide +kernel
theorem dX11_stepsIn_11 : decode cX11_stepsIn 11 = .ok (.goto 4, 3) := by decide +kernel
theorem dX11_stepsIn_14 : decode cX11_stepsIn 14 = .ok (.iconst 0, 1) := by decide +kernel
theorem dX11_stepsIn_15 : decode cX11_stepsIn 15 = .ok (.ireturn, 1) := by decide +kernel
theorem dX11_at_0 : decode cX11_at 0 = .ok (.iload_n 1, 1) := by decide +kernel
theorem dX11_at_1 : decode cX11_at 1 = .ok (.ifCond .lt 15, 3) := by decide +kernel
theorem dX11_at_4 : decode cX11_at 4 = .ok (.iload_n 1, 1) := by decide +kernel
theorem dX11_at_5 : decode cX11_at 5 = .ok (.aload_n 0, 1) := by decide +kernel
theorem dX11_at_6 : decode cX11_at 6 = .ok (.arraylength, 1) := by decide +kernel
theorem dX11_at_7 : decode cX11_at 7 = .ok (.if_icmp .ge 9, 3) := by decide +kernel
theorem dX11_at_10 : decode cX11_at 10 = .ok (.aload_n 0, 1) := by decide +kernel
theorem dX11_at_11 : decode cX11_at 11 = .ok (.iload_n 1, 1) := by decide +kernel
theorem dX11_at_12 : decode cX11_at 12 = .ok (.iaload, 1) := by decide +kernel
theorem dX11_at_13 : decode cX11_at 13 = .ok (.goto 4, 3) := by decide +kernel
theorem dX11_at_16 : decode cX11_at 16 = .ok (.iconst 0, 1) := by decide +kernel
theorem dX11_at_17 : decode cX11_at 17 = .ok (.ireturn, 1) := by decide +kernel
theorem dX11_put_0 : decode cX11_put 0 = .ok (.iload_n 1, 1) := by decide +kernel
theorem dX11_put_1 : decode cX11_put 1 = .ok (.ifCond .lt 13, 3) := by decide +kernel
theorem dX11_put_4 : decode cX11_put 4 = .ok (.iload_n 1, 1) := by decide +kernel
theorem dX11_put_5 : decode cX11_put 5 = .ok (.aload_n 0, 1) := by decide +kernel
theorem dX11_put_6 : decode cX11_put 6 = .ok (.arraylength, 1) := by decide +kernel
theorem dX11_put_7 : decode cX11_put 7 = .ok (.if_icmp .ge 7, 3) := by decide +kernel
theorem dX11_put_10 : decode cX11_put 10 = .ok (.aload_n 0, 1) := by decide +kernel
theorem dX11_put_11 : decode cX11_put 11 = .ok (.iload_n 1, 1) := by decide +kernel
theorem dX11_put_12 : decode cX11_put 12 = .ok (.iload_n 2, 1) := by decide +kernel
theorem dX11_put_13 : decode cX11_put 13 = .ok (.iastore, 1) := by decide +kernel
theorem dX11_put_14 : decode cX11_put 14 = .ok (.return_, 1) := by decide +kernel
theorem dX11_copyRow_0 : decode cX11_copyRow 0 = .ok (.aload_n 0, 1) := by decide +kernel
theorem dX11_copyRow_1 : decode cX11_copyRow 1 = .ok (.iconst 0, 1) := by decide +kernel
theorem dX11_copyRow_2 : decode cX11_copyRow 2 = .ok (.aload_n 1, 1) := by decide +kernel
theorem dX11_copyRow_3 : decode cX11_copyRow 3 = .ok (.iconst 0, 1) := by decide +kernel
theorem dX11_copyRow_4 : decode cX11_copyRow 4 = .ok (.aload_n 0, 1) := by decide +kernel
theorem dX11_copyRow_5 : decode cX11_copyRow 5 = .ok (.arraylength, 1) := by decide +kernel
theorem dX11_copyRow_6 : decode cX11_copyRow 6 = .ok (.aload_n 1, 1) := by decide +kernel
theorem dX11_copyRow_7 : decode cX11_copyRow 7 = .ok (.arraylength, 1) := by decide +kernel
theorem dX11_copyRow_8 : decode cX11_copyRow 8 = .ok (.invokestatic 207, 3) := by decide +kernel
theorem dX11_copyRow_11 : decode cX11_copyRow 11 = .ok (.invokestatic 272, 3) := by decide +kernel
theorem dX11_copyRow_14 : decode cX11_copyRow 14 = .ok (.return_, 1) := by decide +kernel
theorem dX11_round_0 : decode cX11_round 0 = .ok (.lload_n 2, 1) := by decide +kernel
theorem dX11_round_1 : decode cX11_round 1 = .ok (.lconst 0, 1) := by decide +kernel
theorem dX11_round_2 : decode cX11_round 2 = .ok (.lcmp, 1) := by decide +kernel
theorem dX11_round_3 : decode cX11_round 3 = .ok (.ifCond .le 21, 3) := by decide +kernel
theorem dX11_round_6 : decode cX11_round 6 = .ok (.ldc2_w 278, 3) := by decide +kernel
theorem dX11_round_9 : decode cX11_round 9 = .ok (.lload_n 0, 1) := by decide +kernel
theorem dX11_round_10 : decode cX11_round 10 = .ok (.lmul, 1) := by decide +kernel
theorem dX11_round_11 : decode cX11_round 11 = .ok (.lload_n 2, 1) := by decide +kernel
theorem dX11_round_12 : decode cX11_round 12 = .ok (.ladd, 1) := by decide +kernel
theorem dX11_round_13 : decode cX11_round 13 = .ok (.ldc2_w 278, 3) := by decide +kernel
theorem dX11_round_16 : decode cX11_round 16 = .ok (.lload_n 2, 1) := by decide +kernel
theorem dX11_round_17 : decode cX11_round 17 = .ok (.lmul, 1) := by decide +kernel
theorem dX11_round_18 : decode cX11_round 18 = .ok (.invokestatic 280, 3) := by decide +kernel
theorem dX11_round_21 : decode cX11_round 21 = .ok (.goto 4, 3) := by decide +kernel
theorem dX11_round_24 : decode cX11_round 24 = .ok (.lconst 0, 1) := by decide +kernel
theorem dX11_round_25 : decode cX11_round 25 = .ok (.lreturn, 1) := by decide +kernel
theorem dX11_limited_0 : decode cX11_limited 0 = .ok (.iload_n 2, 1) := by decide +kernel
theorem dX11_limited_1 : decode cX11_limited 1 = .ok (.ineg, 1) := by decide +kernel
theorem dX11_limited_2 : decode cX11_limited 2 = .ok (.i2l, 1) := by decide +kernel
theorem dX11_limited_3 : decode cX11_limited 3 = .ok (.iload_n 2, 1) := by decide +kernel
theorem dX11_limited_4 : decode cX11_limited 4 = .ok (.i2l, 1) := by decide +kernel
theorem dX11_limited_5 : decode cX11_limited 5 = .ok (.lload_n 0, 1) := by decide +kernel
theorem dX11_limited_6 : decode cX11_limited 6 = .ok (.invokestatic 284, 3) := by decide +kernel
theorem dX11_limited_9 : decode cX11_limited 9 = .ok (.invokestatic 286, 3) := by decide +kernel
theorem dX11_limited_12 : decode cX11_limited 12 = .ok (.l2i, 1) := by decide +kernel
theorem dX11_limited_13 : decode cX11_limited 13 = .ok (.ireturn, 1) := by decide +kernel
theorem dX11_nearestValue_0 : decode cX11_nearestValue 0 = .ok (.iload_n 0, 1) := by decide +kernel
theorem dX11_nearestValue_1 : decode cX11_nearestValue 1 = .ok (.i2l, 1) := by decide +kernel
theorem dX11_nearestValue_2 : decode cX11_nearestValue 2 = .ok (.ldc2_w 289, 3) := by decide +kernel
theorem dX11_nearestValue_5 : decode cX11_nearestValue 5 = .ok (.invokestatic 291, 3) := by decide +kernel
theorem dX11_nearestValue_8 : decode cX11_nearestValue 8 = .ok (.sipush 999, 3) := by decide +kernel
theorem dX11_nearestValue_11 : decode cX11_nearestValue 11 = .ok (.invokestatic 294, 3) := by decide +kernel
theorem dX11_nearestValue_14 : decode cX11_nearestValue 14 = .ok (.ireturn, 1) := by decide +kernel
theorem dX12_init_0 : decode cX12_init 0 = .ok (.aload_n 0, 1) := by decide +kernel
theorem dX12_init_1 : decode cX12_init 1 = .ok (.invokespecial 1, 3) := by decide +kernel
theorem dX12_init_4 : decode cX12_init 4 = .ok (.aload_n 0, 1) := by decide +kernel
theorem dX12_init_5 : decode cX12_init 5 = .ok (.sipush 660, 3) := by decide +kernel
theorem dX12_init_8 : decode cX12_init 8 = .ok (.newarray .int, 2) := by decide +kernel
theorem dX12_init_10 : decode cX12_init 10 = .ok (.putfield 7, 3) := by decide +kernel
theorem dX12_init_13 : decode cX12_init 13 = .ok (.aload_n 0, 1) := by decide +kernel
theorem dX12_init_14 : decode cX12_init 14 = .ok (.sipush 6600, 3) := by decide +kernel
theorem dX12_init_17 : decode cX12_init 17 = .ok (.newarray .int, 2) := by decide +kernel
theorem dX12_init_19 : decode cX12_init 19 = .ok (.putfield 13, 3) := by decide +kernel
theorem dX12_init_22 : decode cX12_init 22 = .ok (.aload_n 0, 1) := by decide +kernel
theorem dX12_init_23 : decode cX12_init 23 = .ok (.bipush 120, 2) := by decide +kernel
theorem dX12_init_25 : decode cX12_init 25 = .ok (.newarray .int, 2) := by decide +kernel
theorem dX12_init_27 : decode cX12_init 27 = .ok (.putfield 16, 3) := by decide +kernel
theorem dX12_init_30 : decode cX12_init 30 = .ok (.aload_n 0, 1) := by decide +kernel
theorem dX12_init_31 : decode cX12_init 31 = .ok (.sipush 481, 3) := by decide +kernel
theorem dX12_init_34 : decode cX12_init 34 = .ok (.newarray .int, 2) := by decide +kernel
theorem dX12_init_36 : decode cX12_init 36 = .ok (.putfield 19, 3) := by decide +kernel
theorem dX12_init_39 : decode cX12_init 39 = .ok (.aload_n 0, 1) := by decide +kernel
theorem dX12_init_40 : decode cX12_init 40 = .ok (.bipush 41, 2) := by decide +kernel
theorem dX12_init_42 : decode cX12_init 42 = .ok (.newarray .int, 2) := by decide +kernel
theorem dX12_init_44 : decode cX12_init 44 = .ok (.putfield 22, 3) := by decide +kernel
theorem dX12_init_47 : decode cX12_init 47 = .ok (.aload_n 0, 1) := by decide +kernel
theorem dX12_init_48 : decode cX12_init 48 = .ok (.bipush 41, 2) := by decide +kernel
theorem dX12_init_50 : decode cX12_init 50 = .ok (.newarray .int, 2) := by decide +kernel
theorem dX12_init_52 : decode cX12_init 52 = .ok (.putfield 25, 3) := by decide +kernel
theorem dX12_init_55 : decode cX12_init 55 = .ok (.aload_n 0, 1) := by decide +kernel
theorem dX12_init_56 : decode cX12_init 56 = .ok (.bipush 41, 2) := by decide +kernel
theorem dX12_init_58 : decode cX12_init 58 = .ok (.newarray .long, 2) := by decide +kernel
theorem dX12_init_60 : decode cX12_init 60 = .ok (.putfield 28, 3) := by decide +kernel
theorem dX12_init_63 : decode cX12_init 63 = .ok (.aload_n 0, 1) := by decide +kernel
theorem dX12_init_64 : decode cX12_init 64 = .ok (.bipush 41, 2) := by decide +kernel
theorem dX12_init_66 : decode cX12_init 66 = .ok (.newarray .int, 2) := by decide +kernel
theorem dX12_init_68 : decode cX12_init 68 = .ok (.putfield 32, 3) := by decide +kernel
theorem dX12_init_71 : decode cX12_init 71 = .ok (.aload_n 0, 1) := by decide +kernel
theorem dX12_init_72 : decode cX12_init 72 = .ok (.iconst 5, 1) := by decide +kernel
theorem dX12_init_73 : decode cX12_init 73 = .ok (.newarray .int, 2) := by decide +kernel
theorem dX12_init_75 : decode cX12_init 75 = .ok (.putfield 35, 3) := by decide +kernel
theorem dX12_init_78 : decode cX12_init 78 = .ok (.aload_n 0, 1) := by decide +kernel
theorem dX12_init_79 : decode cX12_init 79 = .ok (.bipush 10, 2) := by decide +kernel
theorem dX12_init_81 : decode cX12_init 81 = .ok (.newarray .int, 2) := by decide +kernel
theorem dX12_init_83 : decode cX12_init 83 = .ok (.putfield 38, 3) := by decide +kernel
theorem dX12_init_86 : decode cX12_init 86 = .ok (.aload_n 0, 1) := by decide +kernel
theorem dX12_init_87 : decode cX12_init 87 = .ok (.bipush 10, 2) := by decide +kernel
theorem dX12_init_89 : decode cX12_init 89 = .ok (.newarray .int, 2) := by decide +kernel
theorem dX12_init_91 : decode cX12_init 91 = .ok (.putfield 41, 3) := by decide +kernel
theorem dX12_init_94 : decode cX12_init 94 = .ok (.aload_n 0, 1) := by decide +kernel
theorem dX12_init_95 : decode cX12_init 95 = .ok (.bipush 10, 2) := by decide +kernel
theorem dX12_init_97 : decode cX12_init 97 = .ok (.newarray .int, 2) := by decide +kernel
theorem dX12_init_99 : decode cX12_init 99 = .ok (.putfield 44, 3) := by decide +kernel
theorem dX12_init_102 : decode cX12_init 102 = .ok (.aload_n 0, 1) := by decide +kernel
theorem dX12_init_103 : decode cX12_init 103 = .ok (.bipush 10, 2) := by decide +kernel
theorem dX12_init_105 : decode cX12_init 105 = .ok (.newarray .int, 2) := by decide +kernel
theorem dX12_init_107 : decode cX12_init 107 = .ok (.putfield 47, 3) := by decide +kernel
theorem dX12_init_110 : decode cX12_init 110 = .ok (.aload_n 0, 1) := by decide +kernel
theorem dX12_init_111 : decode cX12_init 111 = .ok (.bipush 10, 2) := by decide +kernel
theorem dX12_init_113 : decode cX12_init 113 = .ok (.newarray .boolean, 2) := by decide +kernel
theorem dX12_init_115 : decode cX12_init 115 = .ok (.putfield 50, 3) := by decide +kernel
theorem dX12_init_118 : decode cX12_init 118 = .ok (.aload_n 0, 1) := by decide +kernel
theorem dX12_init_119 : decode cX12_init 119 = .ok (.bipush 10, 2) := by decide +kernel
theorem dX12_init_121 : decode cX12_init 121 = .ok (.newarray .int, 2) := by decide +kernel
theorem dX12_init_123 : decode cX12_init 123 = .ok (.putfield 54, 3) := by decide +kernel
theorem dX12_init_126 : decode cX12_init 126 = .ok (.aload_n 0, 1) := by decide +kernel
theorem dX12_init_127 : decode cX12_init 127 = .ok (.bipush 75, 2) := by decide +kernel
theorem dX12_init_129 : decode cX12_init 129 = .ok (.newarray .int, 2) := by decide +kernel
theorem dX12_init_131 : decode cX12_init 131 = .ok (.putfield 57, 3) := by decide +kernel
theorem dX12_init_134 : decode cX12_init 134 = .ok (.aload_n 0, 1) := by decide +kernel
theorem dX12_init_135 : decode cX12_init 135 = .ok (.getfield 7, 3) := by decide +kernel
theorem dX12_init_138 : decode cX12_init 138 = .ok (.sipush 530, 3) := by decide +kernel
theorem dX12_init_141 : decode cX12_init 141 = .ok (.iconst 1, 1) := by decide +kernel
theorem dX12_init_142 : decode cX12_init 142 = .ok (.iastore, 1) := by decide +kernel
theorem dX12_init_143 : decode cX12_init 143 = .ok (.aload_n 0, 1) := by decide +kernel
theorem dX12_init_144 : decode cX12_init 144 = .ok (.getfield 7, 3) := by decide +kernel
theorem dX12_init_147 : decode cX12_init 147 = .ok (.sipush 531, 3) := by decide +kernel
theorem dX12_init_150 : decode cX12_init 150 = .ok (.bipush 48, 2) := by decide +kernel
theorem dX12_init_152 : decode cX12_init 152 = .ok (.iastore, 1) := by decide +kernel
theorem dX12_init_153 : decode cX12_init 153 = .ok (.return_, 1) := by decide +kernel
theorem dX12_in_0 : decode cX12_in 0 = .ok (.iload_n 0, 1) := by decide +kernel
theorem dX12_in_1 : decode cX12_in 1 = .ok (.iload_n 1, 1) := by decide +kernel
theorem dX12_in_2 : decode cX12_in 2 = .ok (.if_icmp .lt 12, 3) := by decide +kernel
theorem dX12_in_5 : decode cX12_in 5 = .ok (.iload_n 0, 1) := by decide +kernel
theorem dX12_in_6 : decode cX12_in 6 = .ok (.iload_n 2, 1) := by decide +kernel
theorem dX12_in_7 : decode cX12_in 7 = .ok (.if_icmp .gt 7, 3) := by decide +kernel
theorem dX12_in_10 : decode cX12_in 10 = .ok (.iconst 1, 1) := by decide +kernel
theorem dX12_in_11 : decode cX12_in 11 = .ok (.goto 4, 3) := by decide +kernel
theorem dX12_in_14 : decode cX12_in 14 = .ok (.iconst 0, 1) := by decide +kernel
theorem dX12_in_15 : decode cX12_in 15 = .ok (.ireturn, 1) := by decide +kernel
theorem dX12_most_0 : decode cX12_most 0 = .ok (.iload_n 0, 1) := by decide +kernel
theorem dX12_most_1 : decode cX12_most 1 = .ok (.iload_n 1, 1) := by decide +kernel
theorem dX12_most_2 : decode cX12_most 2 = .ok (.if_icmp .le 7, 3) := by decide +kernel
theorem dX12_most_5 : decode cX12_most 5 = .ok (.iload_n 0, 1) := by decide +kernel
theorem dX12_most_6 : decode cX12_most 6 = .ok (.goto 4, 3) := by decide +kernel
theorem dX12_most_9 : decode cX12_most 9 = .ok (.iload_n 1, 1) := by decide +kernel
theorem dX12_most_10 : decode cX12_most 10 = .ok (.ireturn, 1) := by decide +kernel
theorem dX12_least_0 : decode cX12_least 0 = .ok (.iload_n 0, 1) := by decide +kernel
theorem dX12_least_1 : decode cX12_least 1 = .ok (.iload_n 1, 1) := by decide +kernel
theorem dX12_least_2 : decode cX12_least 2 = .ok (.if_icmp .ge 7, 3) := by decide +kernel
theorem dX12_least_5 : decode cX12_least 5 = .ok (.iload_n 0, 1) := by decide +kernel
theorem dX12_least_6 : decode cX12_least 6 = .ok (.goto 4, 3) := by decide +kernel
theorem dX12_least_9 : decode cX12_least 9 = .ok (.iload_n 1, 1) := by decide +kernel
theorem dX12_least_10 : decode cX12_least 10 = .ok (.ireturn, 1) := by decide +kernel
theorem dX12_bound_0 : decode cX12_bound 0 = .ok (.lload_n 0, 1) := by decide +kernel
theorem dX12_bound_1 : decode cX12_bound 1 = .ok (.iload_n 2, 1) := by decide +kernel
theorem dX12_bound_2 : decode cX12_bound 2 = .ok (.i2l, 1) := by decide +kernel
theorem dX12_bound_3 : decode cX12_bound 3 = .ok (.lcmp, 1) := by decide +kernel
theorem dX12_bound_4 : decode cX12_bound 4 = .ok (.ifCond .le 7, 3) := by decide +kernel
theorem dX12_bound_7 : decode cX12_bound 7 = .ok (.iload_n 2, 1) := by decide +kernel
theorem dX12_bound_8 : decode cX12_bound 8 = .ok (.goto 18, 3) := by decide +kernel
theorem dX12_bound_11 : decode cX12_bound 11 = .ok (.lload_n 0, 1) := by decide +kernel
theorem dX12_bound_12 : decode cX12_bound 12 = .ok (.iload_n 2, 1) := by decide +kernel
theorem dX12_bound_13 : decode cX12_bound 13 = .ok (.ineg, 1) := by decide +kernel
theorem dX12_bound_14 : decode cX12_bound 14 = .ok (.i2l, 1) := by decide +kernel
theorem dX12_bound_15 : decode cX12_bound 15 = .ok (.lcmp, 1) := by decide +kernel
theorem dX12_bound_16 : decode cX12_bound 16 = .ok (.ifCond .ge 8, 3) := by decide +kernel
theorem dX12_bound_19 : decode cX12_bound 19 = .ok (.iload_n 2, 1) := by decide +kernel
theorem dX12_bound_20 : decode cX12_bound 20 = .ok (.ineg, 1) := by decide +kernel
theorem dX12_bound_21 : decode cX12_bound 21 = .ok (.goto 5, 3) := by decide +kernel
theorem dX12_bound_24 : decode cX12_bound 24 = .ok (.lload_n 0, 1) := by decide +kernel
theorem dX12_bound_25 : decode cX12_bound 25 = .ok (.l2i, 1) := by decide +kernel
theorem dX12_bound_26 : decode cX12_bound 26 = .ok (.ireturn, 1) := by decide +kernel
theorem dX12_size_0 : decode cX12_size 0 = .ok (.iload_n 0, 1) := by decide +kernel
theorem dX12_size_1 : decode cX12_size 1 = .ok (.ifCond .ge 8, 3) := by decide +kernel
theorem dX12_size_4 : decode cX12_size 4 = .ok (.iload_n 0, 1) := by decide +kernel
